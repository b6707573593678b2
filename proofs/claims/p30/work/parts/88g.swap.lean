/-! the law's own methods, written by wip/g1.py: 88g.swap -/
theorem G_O_xch {g : P_Gl} {τ : P_A} {G nn : Nat} {D : Nat} {od : Int → Int} (hO : P_gO g τ G D nn od) (hnn : 1 ≤ nn ∧ nn ≤ 3) {a b : Int} (ha : 0 ≤ a ∧ a < (nn : Int)) (hb : 0 ≤ b ∧ b < (nn : Int)) {va vb : Int} (hva : va = od b) (hvb : vb = od a) : P_gO g (P_u2 (P_u2 τ D a.toNat va) D b.toNat vb) G D nn (A_xch od a b) := by
  subst hva
  subst hvb
  obtain ⟨h1, h2, h3, h4⟩ := hO
  have hGD : G ≠ D := fun e => by rw [← e] at h2; cases h2.symm.trans h1.1
  refine ⟨⟨h1.1, (P_u2_ne (fun q => hGD q.1)).trans ((P_u2_ne (fun q => hGD q.1)).trans h1.2)⟩, h2, fun j j0 j1 => ?_, fun s s0 s1 => ?_⟩
  · have ha' := (h3 a ha.1 ha.2).2
    have hb' := (h3 b hb.1 hb.2).2
    unfold A_xch
    by_cases e : j = b
    · subst e; rw [if_pos rfl]; exact ⟨P_u2_at, ha'⟩
    · rw [if_neg e, P_u2_ne (by omega)]
      by_cases e2 : j = a
      · subst e2; rw [if_pos rfl]; exact ⟨P_u2_at, hb'⟩
      · rw [if_neg e2, P_u2_ne (by omega)]; exact h3 j j0 j1
  · have hp := h4 s s0 s1
    unfold A_xch
    rcases (by omega : a = 0 ∨ a = 1 ∨ a = 2) with rfl | rfl | rfl <;> rcases (by omega : b = 0 ∨ b = 1 ∨ b = 2) with rfl | rfl | rfl <;> simp <;> omega
theorem G_fr_2 {g : P_Gl} {τ : P_A} {G : Nat} {v : Int} {sh : P_Sg} (hG : g G = some (1, sh)) : G_fr G_R G_F2 g τ g (P_u2 τ G 2 v) := G_fr_f hG (Or.inl rfl)
theorem g_swt {d : Nat} {w : P_Lw} {σ : P_A} {g : P_Gl} {τ : P_A} {N u : Nat} {Q : P_GQ} {G nn B D : Nat} {cs : List A_cd} {od oc : Int → Int} {tb : Int → Nat} {rw : Int → Int} {vr : Int → Int → Int} {cl : Int → Int} {V : Int → Int → Int → Int} {it : Int} {ki ci : Int → Int} {gp oi lm nv : Int} (hw : P_Cw w) (hB : A_B w σ (nn : Int) tb rw vr cl V cs oc it ki ci gp oi lm nv) (hO : P_gO g τ G D nn od) (hnn : 1 ≤ nn ∧ nn ≤ 3) (h0 : τ G 0 = ((w.2.2 0 : Nat) : Int)) {a b : Int} (ha : 0 ≤ a ∧ a < (nn : Int)) (hb : 0 ≤ b ∧ b < (nn : Int)) (hod : od a = A_xch oc a b a) (q : ∀ σ1, A_fch σ σ1 → A_KL σ1 (cs.map (A_up (A_xch oc a b))) → A_O σ1 (nn : Int) (A_xch oc a b) → σ1 13 5 = nv → σ1 31 16 = 0 → Q (.inl (some (P_z 1))) w σ1 g τ N u) : P_gw (d + 12) 203 97 [.ref G, P_z a, P_z b, P_un, .ref B, P_z (cs.length : Int), P_z (cs.length : Int), P_un] [] w σ g τ N u Q := by
  have hoa := (hO.2.2.1 a ha.1 ha.2).2
  refine P_gw_op (L' := [.ref G, P_z a, P_z b, P_un, .ref B, P_z (cs.length : Int), P_z (cs.length : Int), P_un]) (st' := [.ref G]) P_i203_97 rfl (show P_gw _ _ 98 [.ref G, P_z a, P_z b, P_un, .ref B, P_z (cs.length : Int), P_z (cs.length : Int), P_un] [.ref G] _ _ _ _ _ _ _ from ?_)
  refine P_gw_getR (P_i203_98) (hO.1.1) rfl rfl (h0) (show P_gw _ _ 101 [.ref G, P_z a, P_z b, P_un, .ref B, P_z (cs.length : Int), P_z (cs.length : Int), P_un] [.ref (w.2.2 0)] _ _ _ _ _ _ _ from ?_)
  refine P_gw_op (L' := [.ref G, P_z a, P_z b, P_un, .ref B, P_z (cs.length : Int), P_z (cs.length : Int), P_un]) (st' := [P_z a, .ref (w.2.2 0)]) P_i203_101 rfl (show P_gw _ _ 102 [.ref G, P_z a, P_z b, P_un, .ref B, P_z (cs.length : Int), P_z (cs.length : Int), P_un] [P_z a, .ref (w.2.2 0)] _ _ _ _ _ _ _ from ?_)
  refine P_gw_op (L' := [.ref G, P_z a, P_z b, P_un, .ref B, P_z (cs.length : Int), P_z (cs.length : Int), P_un]) (st' := [P_z b, P_z a, .ref (w.2.2 0)]) P_i203_102 rfl (show P_gw _ _ 103 [.ref G, P_z a, P_z b, P_un, .ref B, P_z (cs.length : Int), P_z (cs.length : Int), P_un] [P_z b, P_z a, .ref (w.2.2 0)] _ _ _ _ _ _ _ from ?_)
  refine P_gw_cls P_i203_103 rfl rfl (fun _ => rfl) rfl rfl rfl rfl (y2 := 148) (as := [.ref (w.2.2 0), P_z a, P_z b]) (r0 := []) (P_inv_v (hw.2.1 0 (by decide)) (hw.s rfl) rfl rfl) (Nat.le_of_ble_eq_true rfl) (by decide) rfl (Nat.le_of_ble_eq_true rfl) (s_swp hw hB ha hb (fun σ1 f1 f2 f3 f4 f5 => ?_))
  show P_gw _ _ 106 [.ref G, P_z a, P_z b, P_un, .ref B, P_z (cs.length : Int), P_z (cs.length : Int), P_un] [P_z (A_xch oc a b a)] _ _ _ _ _ _ _
  refine P_gw_op (L' := [.ref G, P_z a, P_z b, P_un, .ref B, P_z (cs.length : Int), P_z (cs.length : Int), P_un]) (st' := [.ref G, P_z (A_xch oc a b a)]) P_i203_106 rfl (show P_gw _ _ 107 [.ref G, P_z a, P_z b, P_un, .ref B, P_z (cs.length : Int), P_z (cs.length : Int), P_un] [.ref G, P_z (A_xch oc a b a)] _ _ _ _ _ _ _ from ?_)
  refine P_gw_getR (P_i203_107) (hO.1.1) rfl rfl (hO.1.2) (show P_gw _ _ 110 [.ref G, P_z a, P_z b, P_un, .ref B, P_z (cs.length : Int), P_z (cs.length : Int), P_un] [.ref D, P_z (A_xch oc a b a)] _ _ _ _ _ _ _ from ?_)
  refine P_gw_op (L' := [.ref G, P_z a, P_z b, P_un, .ref B, P_z (cs.length : Int), P_z (cs.length : Int), P_un]) (st' := [P_z a, .ref D, P_z (A_xch oc a b a)]) P_i203_110 rfl (show P_gw _ _ 111 [.ref G, P_z a, P_z b, P_un, .ref B, P_z (cs.length : Int), P_z (cs.length : Int), P_un] [P_z a, .ref D, P_z (A_xch oc a b a)] _ _ _ _ _ _ _ from ?_)
  have hg1 := (hO.2.2.1 a (by omega) (by omega)).2
  refine P_gw_ald P_i203_111 (hO.2.1) (by omega) (by omega) (by omega) ((hO.2.2.1 a (by omega) (by omega)).1) (show P_gw _ _ 112 [.ref G, P_z a, P_z b, P_un, .ref B, P_z (cs.length : Int), P_z (cs.length : Int), P_un] [P_z (od a), P_z (A_xch oc a b a)] _ _ _ _ _ _ _ from ?_)
  refine P_gw_icf P_i203_112 ⟨by omega, by omega⟩ ⟨by omega, by omega⟩ (P_ci_nef (by omega)) (show P_gw _ _ 115 [.ref G, P_z a, P_z b, P_un, .ref B, P_z (cs.length : Int), P_z (cs.length : Int), P_un] [] _ _ _ _ _ _ _ from ?_)
  refine P_gw_op (L' := [.ref G, P_z a, P_z b, P_un, .ref B, P_z (cs.length : Int), P_z (cs.length : Int), P_un]) (st' := [P_z 1]) P_i203_115 rfl (show P_gw _ _ 116 [.ref G, P_z a, P_z b, P_un, .ref B, P_z (cs.length : Int), P_z (cs.length : Int), P_un] [P_z 1] _ _ _ _ _ _ _ from ?_)
  refine P_gw_goto P_i203_116 (show P_gw _ _ 120 [.ref G, P_z a, P_z b, P_un, .ref B, P_z (cs.length : Int), P_z (cs.length : Int), P_un] [P_z 1] _ _ _ _ _ _ _ from ?_)
  refine P_gw_end P_i203_120 rfl rfl (fun _ => rfl) rfl ?_
  exact q σ1 f1 f2 f3 f4 f5

def G_R6 (r : Nat) : Prop := r = 6
def G_2 (j : Nat) : Prop := j = 2
theorem G_fr_62 {g g1 : P_Gl} {τ τ1 : P_A} (h : G_fr G_R6 G_2 g τ g1 τ1) : G_fr G_R G_F2 g τ g1 τ1 := G_fr_le (fun _ h => Or.inr h) (fun r h => Or.inl h) h
theorem G_fr_50 {g g1 : P_Gl} {τ τ1 : P_A} (h : G_fr G_R5 G_0 g τ g1 τ1) : G_fr G_R G_F2 g τ g1 τ1 := G_fr_le (fun _ h => Or.inl h) (fun r h => h.elim) h
theorem g_swap {d : Nat} {w : P_Lw} {σ : P_A} {g : P_Gl} {τ : P_A} {N u : Nat} {Q : P_GQ} {G nn : Nat} {sn : Int → Int} {cT : Int → Nat} {cs : List A_cd} {od : Int → Int} {tb : Int → Nat} {rw : Int → Int} {vr : Int → Int → Int} {cl : Int → Int} {V : Int → Int → Int → Int} {it : Int} {ki ci : Int → Int} {gp oi lm nv : Int} (hw : P_Cw w) (hB : A_B w σ (nn : Int) tb rw vr cl V cs od it ki ci gp oi lm nv) {B D : Nat} {ad : Int → Nat} (hC : P_gC g τ G B cs ad) (hok : ∀ x ∈ cs, P_gok nn sn cT x) (hO : P_gO g τ G D nn od) (h13 : τ G 13 = nv) (hnn : 1 ≤ nn ∧ nn ≤ 3) (h0 : τ G 0 = ((w.2.2 0 : Nat) : Int)) (hs1 : τ G 1 = ((0 : Nat) : Int)) {dr : Int} (hdr2 : τ G 2 = dr) (hdr : 0 ≤ dr ∧ dr ≤ 999990) (q : ∀ a b, 0 ≤ a → a < (nn : Int) → 0 ≤ b → b < (nn : Int) → ∀ σ1 τ1, A_fch σ σ1 → A_KL σ1 (cs.map (A_up (A_xch od a b))) → A_O σ1 (nn : Int) (A_xch od a b) → σ1 13 5 = nv → σ1 31 16 = 0 → G_fr G_R G_F2 g τ g τ1 → P_gC g τ1 G B (cs.map (A_up (A_xch od a b))) ad → P_gO g τ1 G D nn (A_xch od a b) → τ1 G 13 = nv → τ1 G 2 = dr + 1 + 1 → Q (.inl (some (P_z 1))) w σ1 g τ1 N u) : P_gw (d + 12) 203 0 [.ref G, P_un, P_un, P_un, P_un, P_un, P_un, P_un] [] w σ g τ N u Q := by
  have hcl := hC.2.2.1
  have hGD : D ≠ G := fun e => by have h := hO.2.1; rw [e] at h; cases h.symm.trans hO.1.1
  have hBD : B ≠ D := fun e => by have h := hO.2.1; rw [← e] at h; cases h.symm.trans hC.2.1
  have hBG : B ≠ G := fun e => by have h := hC.2.1; rw [e] at h; cases h.symm.trans hC.1.1
  refine P_gw_op (L' := [.ref G, P_un, P_un, P_un, P_un, P_un, P_un, P_un]) (st' := [.ref G]) P_i203_0 rfl (show P_gw _ _ 1 [.ref G, P_un, P_un, P_un, P_un, P_un, P_un, P_un] [.ref G] _ _ _ _ _ _ _ from ?_)
  refine P_gw_op (L' := [.ref G, P_un, P_un, P_un, P_un, P_un, P_un, P_un]) (st' := [.ref G, .ref G]) P_i203_1 rfl (show P_gw _ _ 2 [.ref G, P_un, P_un, P_un, P_un, P_un, P_un, P_un] [.ref G, .ref G] _ _ _ _ _ _ _ from ?_)
  refine P_gw_getR (P_i203_2) (hC.1.1) rfl rfl (hO.1.2) (show P_gw _ _ 5 [.ref G, P_un, P_un, P_un, P_un, P_un, P_un, P_un] [.ref D, .ref G] _ _ _ _ _ _ _ from ?_)
  refine P_gw_alen P_i203_5 (hO.2.1) (show P_gw _ _ 6 [.ref G, P_un, P_un, P_un, P_un, P_un, P_un, P_un] [P_z ((nn : Nat) : Int), .ref G] _ _ _ _ _ _ _ from ?_)
  refine P_gw_call P_i203_6 rfl rfl (fun _ => rfl) rfl rfl rfl rfl (y2 := 182) (as := [.ref G, P_z ((nn : Nat) : Int)]) (r0 := []) (P_ginv_v (hC.1.1) rfl rfl) (Nat.le_of_ble_eq_true rfl) (by decide) rfl (Nat.le_of_ble_eq_true rfl) (s_draw (hC.1.1) (hs1) (hdr2) (by omega) (by omega) (fun v1 hv1a hv1b => ?_))
  show P_gw _ _ 9 [.ref G, P_un, P_un, P_un, P_un, P_un, P_un, P_un] [P_z v1] _ _ _ _ _ _ _
  refine P_gw_op (L' := [.ref G, P_z v1, P_un, P_un, P_un, P_un, P_un, P_un]) (st' := []) P_i203_9 rfl (show P_gw _ _ 10 [.ref G, P_z v1, P_un, P_un, P_un, P_un, P_un, P_un] [] _ _ _ _ _ _ _ from ?_)
  refine P_gw_op (L' := [.ref G, P_z v1, P_un, P_un, P_un, P_un, P_un, P_un]) (st' := [.ref G]) P_i203_10 rfl (show P_gw _ _ 11 [.ref G, P_z v1, P_un, P_un, P_un, P_un, P_un, P_un] [.ref G] _ _ _ _ _ _ _ from ?_)
  refine P_gw_op (L' := [.ref G, P_z v1, P_un, P_un, P_un, P_un, P_un, P_un]) (st' := [.ref G, .ref G]) P_i203_11 rfl (show P_gw _ _ 12 [.ref G, P_z v1, P_un, P_un, P_un, P_un, P_un, P_un] [.ref G, .ref G] _ _ _ _ _ _ _ from ?_)
  refine P_gw_getR (P_i203_12) (hC.1.1) rfl rfl ((P_u2_ne (by omega)).trans (hO.1.2)) (show P_gw _ _ 15 [.ref G, P_z v1, P_un, P_un, P_un, P_un, P_un, P_un] [.ref D, .ref G] _ _ _ _ _ _ _ from ?_)
  refine P_gw_alen P_i203_15 (hO.2.1) (show P_gw _ _ 16 [.ref G, P_z v1, P_un, P_un, P_un, P_un, P_un, P_un] [P_z ((nn : Nat) : Int), .ref G] _ _ _ _ _ _ _ from ?_)
  refine P_gw_call P_i203_16 rfl rfl (fun _ => rfl) rfl rfl rfl rfl (y2 := 182) (as := [.ref G, P_z ((nn : Nat) : Int)]) (r0 := []) (P_ginv_v (hC.1.1) rfl rfl) (Nat.le_of_ble_eq_true rfl) (by decide) rfl (Nat.le_of_ble_eq_true rfl) (s_draw (hC.1.1) ((P_u2_ne (by omega)).trans (hs1)) (P_u2_at) (by omega) (by omega) (fun v2 hv2a hv2b => ?_))
  show P_gw _ _ 19 [.ref G, P_z v1, P_un, P_un, P_un, P_un, P_un, P_un] [P_z v2] _ _ _ _ _ _ _
  refine P_gw_op (L' := [.ref G, P_z v1, P_z v2, P_un, P_un, P_un, P_un, P_un]) (st' := []) P_i203_19 rfl (show P_gw _ _ 20 [.ref G, P_z v1, P_z v2, P_un, P_un, P_un, P_un, P_un] [] _ _ _ _ _ _ _ from ?_)
  refine P_gw_op (L' := [.ref G, P_z v1, P_z v2, P_un, P_un, P_un, P_un, P_un]) (st' := [.ref G]) P_i203_20 rfl (show P_gw _ _ 21 [.ref G, P_z v1, P_z v2, P_un, P_un, P_un, P_un, P_un] [.ref G] _ _ _ _ _ _ _ from ?_)
  refine P_gw_getR (P_i203_21) (hC.1.1) rfl rfl ((P_u2_ne (by omega)).trans ((P_u2_ne (by omega)).trans (hO.1.2))) (show P_gw _ _ 24 [.ref G, P_z v1, P_z v2, P_un, P_un, P_un, P_un, P_un] [.ref D] _ _ _ _ _ _ _ from ?_)
  refine P_gw_op (L' := [.ref G, P_z v1, P_z v2, P_un, P_un, P_un, P_un, P_un]) (st' := [P_z v1, .ref D]) P_i203_24 rfl (show P_gw _ _ 25 [.ref G, P_z v1, P_z v2, P_un, P_un, P_un, P_un, P_un] [P_z v1, .ref D] _ _ _ _ _ _ _ from ?_)
  have hg3 := (hO.2.2.1 v1 (by omega) (by omega)).2
  refine P_gw_ald P_i203_25 (hO.2.1) (by omega) (by omega) (by omega) ((P_u2_ne (by omega)).trans ((P_u2_ne (by omega)).trans ((hO.2.2.1 v1 (by omega) (by omega)).1))) (show P_gw _ _ 26 [.ref G, P_z v1, P_z v2, P_un, P_un, P_un, P_un, P_un] [P_z (od v1)] _ _ _ _ _ _ _ from ?_)
  refine P_gw_op (L' := [.ref G, P_z v1, P_z v2, P_z (od v1), P_un, P_un, P_un, P_un]) (st' := []) P_i203_26 rfl (show P_gw _ _ 27 [.ref G, P_z v1, P_z v2, P_z (od v1), P_un, P_un, P_un, P_un] [] _ _ _ _ _ _ _ from ?_)
  refine P_gw_op (L' := [.ref G, P_z v1, P_z v2, P_z (od v1), P_un, P_un, P_un, P_un]) (st' := [.ref G]) P_i203_27 rfl (show P_gw _ _ 28 [.ref G, P_z v1, P_z v2, P_z (od v1), P_un, P_un, P_un, P_un] [.ref G] _ _ _ _ _ _ _ from ?_)
  refine P_gw_getR (P_i203_28) (hC.1.1) rfl rfl ((P_u2_ne (by omega)).trans ((P_u2_ne (by omega)).trans (hO.1.2))) (show P_gw _ _ 31 [.ref G, P_z v1, P_z v2, P_z (od v1), P_un, P_un, P_un, P_un] [.ref D] _ _ _ _ _ _ _ from ?_)
  refine P_gw_op (L' := [.ref G, P_z v1, P_z v2, P_z (od v1), P_un, P_un, P_un, P_un]) (st' := [P_z v1, .ref D]) P_i203_31 rfl (show P_gw _ _ 32 [.ref G, P_z v1, P_z v2, P_z (od v1), P_un, P_un, P_un, P_un] [P_z v1, .ref D] _ _ _ _ _ _ _ from ?_)
  refine P_gw_op (L' := [.ref G, P_z v1, P_z v2, P_z (od v1), P_un, P_un, P_un, P_un]) (st' := [.ref G, P_z v1, .ref D]) P_i203_32 rfl (show P_gw _ _ 33 [.ref G, P_z v1, P_z v2, P_z (od v1), P_un, P_un, P_un, P_un] [.ref G, P_z v1, .ref D] _ _ _ _ _ _ _ from ?_)
  refine P_gw_getR (P_i203_33) (hC.1.1) rfl rfl ((P_u2_ne (by omega)).trans ((P_u2_ne (by omega)).trans (hO.1.2))) (show P_gw _ _ 36 [.ref G, P_z v1, P_z v2, P_z (od v1), P_un, P_un, P_un, P_un] [.ref D, P_z v1, .ref D] _ _ _ _ _ _ _ from ?_)
  refine P_gw_op (L' := [.ref G, P_z v1, P_z v2, P_z (od v1), P_un, P_un, P_un, P_un]) (st' := [P_z v2, .ref D, P_z v1, .ref D]) P_i203_36 rfl (show P_gw _ _ 37 [.ref G, P_z v1, P_z v2, P_z (od v1), P_un, P_un, P_un, P_un] [P_z v2, .ref D, P_z v1, .ref D] _ _ _ _ _ _ _ from ?_)
  have hg4 := (hO.2.2.1 v2 (by omega) (by omega)).2
  refine P_gw_ald P_i203_37 (hO.2.1) (by omega) (by omega) (by omega) ((P_u2_ne (by omega)).trans ((P_u2_ne (by omega)).trans ((hO.2.2.1 v2 (by omega) (by omega)).1))) (show P_gw _ _ 38 [.ref G, P_z v1, P_z v2, P_z (od v1), P_un, P_un, P_un, P_un] [P_z (od v2), P_z v1, .ref D] _ _ _ _ _ _ _ from ?_)
  refine P_gw_ast P_i203_38 (hO.2.1) (by omega) (by omega) (by omega) (show P_gw _ _ 39 [.ref G, P_z v1, P_z v2, P_z (od v1), P_un, P_un, P_un, P_un] [] _ _ _ _ _ _ _ from ?_)
  refine P_gw_op (L' := [.ref G, P_z v1, P_z v2, P_z (od v1), P_un, P_un, P_un, P_un]) (st' := [.ref G]) P_i203_39 rfl (show P_gw _ _ 40 [.ref G, P_z v1, P_z v2, P_z (od v1), P_un, P_un, P_un, P_un] [.ref G] _ _ _ _ _ _ _ from ?_)
  refine P_gw_getR (P_i203_40) (hC.1.1) rfl rfl ((P_u2_ne (by omega)).trans ((P_u2_ne (by omega)).trans ((P_u2_ne (by omega)).trans (hO.1.2)))) (show P_gw _ _ 43 [.ref G, P_z v1, P_z v2, P_z (od v1), P_un, P_un, P_un, P_un] [.ref D] _ _ _ _ _ _ _ from ?_)
  refine P_gw_op (L' := [.ref G, P_z v1, P_z v2, P_z (od v1), P_un, P_un, P_un, P_un]) (st' := [P_z v2, .ref D]) P_i203_43 rfl (show P_gw _ _ 44 [.ref G, P_z v1, P_z v2, P_z (od v1), P_un, P_un, P_un, P_un] [P_z v2, .ref D] _ _ _ _ _ _ _ from ?_)
  refine P_gw_op (L' := [.ref G, P_z v1, P_z v2, P_z (od v1), P_un, P_un, P_un, P_un]) (st' := [P_z (od v1), P_z v2, .ref D]) P_i203_44 rfl (show P_gw _ _ 45 [.ref G, P_z v1, P_z v2, P_z (od v1), P_un, P_un, P_un, P_un] [P_z (od v1), P_z v2, .ref D] _ _ _ _ _ _ _ from ?_)
  refine P_gw_ast P_i203_45 (hO.2.1) (by omega) (by omega) (by omega) (show P_gw _ _ 46 [.ref G, P_z v1, P_z v2, P_z (od v1), P_un, P_un, P_un, P_un] [] _ _ _ _ _ _ _ from ?_)
  refine P_gw_op (L' := [.ref G, P_z v1, P_z v2, P_z (od v1), P_un, P_un, P_un, P_un]) (st' := [.ref G]) P_i203_46 rfl (show P_gw _ _ 47 [.ref G, P_z v1, P_z v2, P_z (od v1), P_un, P_un, P_un, P_un] [.ref G] _ _ _ _ _ _ _ from ?_)
  refine P_gw_getR (P_i203_47) (hC.1.1) rfl rfl ((P_u2_ne (by omega)).trans ((P_u2_ne (by omega)).trans ((P_u2_ne (by omega)).trans ((P_u2_ne (by omega)).trans (hC.1.2))))) (show P_gw _ _ 50 [.ref G, P_z v1, P_z v2, P_z (od v1), P_un, P_un, P_un, P_un] [.ref B] _ _ _ _ _ _ _ from ?_)
  refine P_gw_op (L' := [.ref G, P_z v1, P_z v2, P_z (od v1), .ref B, P_un, P_un, P_un]) (st' := []) P_i203_50 rfl (show P_gw _ _ 52 [.ref G, P_z v1, P_z v2, P_z (od v1), .ref B, P_un, P_un, P_un] [] _ _ _ _ _ _ _ from ?_)
  refine P_gw_op (L' := [.ref G, P_z v1, P_z v2, P_z (od v1), .ref B, P_un, P_un, P_un]) (st' := [.ref B]) P_i203_52 rfl (show P_gw _ _ 54 [.ref G, P_z v1, P_z v2, P_z (od v1), .ref B, P_un, P_un, P_un] [.ref B] _ _ _ _ _ _ _ from ?_)
  refine P_gw_rlen P_i203_54 (hC.2.1) (show P_gw _ _ 55 [.ref G, P_z v1, P_z v2, P_z (od v1), .ref B, P_un, P_un, P_un] [P_z (cs.length : Int)] _ _ _ _ _ _ _ from ?_)
  refine P_gw_op (L' := [.ref G, P_z v1, P_z v2, P_z (od v1), .ref B, P_z (cs.length : Int), P_un, P_un]) (st' := []) P_i203_55 rfl (show P_gw _ _ 57 [.ref G, P_z v1, P_z v2, P_z (od v1), .ref B, P_z (cs.length : Int), P_un, P_un] [] _ _ _ _ _ _ _ from ?_)
  refine P_gw_op (L' := [.ref G, P_z v1, P_z v2, P_z (od v1), .ref B, P_z (cs.length : Int), P_un, P_un]) (st' := [P_z 0]) P_i203_57 rfl (show P_gw _ _ 58 [.ref G, P_z v1, P_z v2, P_z (od v1), .ref B, P_z (cs.length : Int), P_un, P_un] [P_z 0] _ _ _ _ _ _ _ from ?_)
  refine P_gw_op (L' := [.ref G, P_z v1, P_z v2, P_z (od v1), .ref B, P_z (cs.length : Int), P_z 0, P_un]) (st' := []) P_i203_58 rfl (show P_gw _ _ 60 [.ref G, P_z v1, P_z v2, P_un, .ref B, P_z (cs.length : Int), P_z 0, P_un] [] _ _ _ _ _ _ _ from ?_)
  have hf2 : G_fr G_0 G_2 g τ g (P_u2 (P_u2 τ G 2 (dr + 1)) G 2 ((dr + 1) + 1)) := G_fr_tr (G_fr_f hC.1.1 rfl) (G_fr_f hC.1.1 rfl)
  have hfr : G_fr G_R6 G_2 g τ g (P_u2 (P_u2 (P_u2 (P_u2 τ G 2 (dr + 1)) G 2 ((dr + 1) + 1)) D v1.toNat (od v2)) D v2.toNat (od v1)) := G_fr_tr (G_fr_tr (G_fr_le (fun _ h => h.elim) (fun _ h => h) hf2) (G_fr_r hO.2.1 rfl)) (G_fr_r hO.2.1 rfl)
  have hO4 := G_O_xch (P_gO_fr hf2 ⟨id, id⟩ (by unfold G_2; omega) hO) hnn (a := v1) (b := v2) (va := (od v2)) (vb := (od v1)) (by omega) (by omega) rfl rfl
  have hC4 := P_gC_fr hfr ⟨by unfold G_R6; omega, by unfold G_R6; omega, by unfold G_R6; omega⟩ (by unfold G_2; omega) hC
  refine g_swl hnn (a := v1) (b := v2) cs.length (P_u2 (P_u2 (P_u2 (P_u2 τ G 2 (dr + 1)) G 2 ((dr + 1) + 1)) D v1.toNat (od v2)) D v2.toNat (od v1)) cs [] cs 0 rfl rfl rfl hC4 hok hO4 (fun τ' c1 c2 => ?_)
  have hfa := G_fr_tr (G_fr_62 hfr) (G_fr_50 c1)
  have hO5 := P_gO_fr c1 ⟨G_nR5 _ (by omega), G_nR5 _ (by omega)⟩ id hO4
  exact g_swt hw hB hO5 hnn (((hfa G _ _ hC.1.1).2 0 (fun _ => G_nF _ (by omega)) (G_nR _ (by omega))).trans h0) (by omega) (by omega) rfl (fun σ1 f1 f2 f3 f4 f5 => q v1 v2 (by omega) (by omega) (by omega) (by omega) σ1 τ' f1 f2 f3 f4 f5 hfa c2 hO5 (((c1 G _ _ hC.1.1).2 13 (fun _ => id) (G_nR5 _ (by omega))).trans (((hfr G _ _ hC.1.1).2 13 (fun _ => (by unfold G_2; omega)) (by unfold G_R6; omega)).trans h13)) (((c1 G _ _ hC.1.1).2 2 (fun _ => id) (G_nR5 _ (by omega))).trans ((P_u2_ne (by omega)).trans ((P_u2_ne (by omega)).trans P_u2_at))))
