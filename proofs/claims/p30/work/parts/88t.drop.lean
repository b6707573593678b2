/-! the law's own methods, written by wip/g1.py: 88t.drop -/
def G_R2 (r : Nat) : Prop := r = 2
theorem G_T_rw {g : P_Gl} {τ : P_A} {G N : Nat} {T nt : Nat} {tt : Int → Nat} {rT : Int → Nat} {tr : Int → Int → Nat} {cT : Int → Nat} {VV : Int → Int → Int → Int} (hT : P_gT g τ G T nt tt rT tr cT VV) (hlt : ∀ a r sh, g a = some (r, sh) → 2 ≤ a ∧ a < N) {t : Int} (h0 : 0 ≤ t) (h1 : t < (nt : Int)) : P_rw1 g τ N (tt t) (rT t) := fun j hj => by
  have h := ((hT.2.2.2 t h0 h1).2 (j : Int) (by omega) (by omega)).1
  exact ⟨tr t j, 4, cT t, by have := h.1; rw [Int.toNat_natCast] at this; exact this, (hlt _ _ _ h.2).2, h.2⟩
/-- a row of Grove's less -/
theorem G_T_drop {g g' : P_Gl} {τ τ' : P_A} {G N : Nat} {T nt : Nat} {tt : Int → Nat} {rT : Int → Nat} {tr : Int → Int → Nat} {cT : Int → Nat} {VV : Int → Int → Int → Int} (hT : P_gT g τ G T nt tt rT tr cT VV) (hlt : ∀ a r sh, g a = some (r, sh) → 2 ≤ a ∧ a < N) {t p : Int} (ht : 0 ≤ t ∧ t < (nt : Int)) (hp : 0 ≤ p ∧ p < (rT t : Int)) (hx : P_xt N g τ g' τ') (hN : g' N = some (3, .inr (.inr (200, rT t - 1)))) (h1 : ∀ j : Nat, (j : Int) < p → τ' N j = τ (tt t) j) (h2 : ∀ j : Nat, p ≤ (j : Int) → j + 1 < rT t → τ' N j = τ (tt t) (j + 1)) : P_gT g' (P_u2 τ' T t.toNat (N : Int)) G T nt (fun s => if s = t then N else tt s) (G_dr rT t) (fun s j => if s = t ∧ ¬ j < p then tr s (j + 1) else tr s j) cT (G_dV VV t p) := by
  obtain ⟨⟨b1, b2⟩, b3, b4, b5⟩ := hT
  have hG := (hlt _ _ _ b1).2
  have hTl := (hlt _ _ _ b3).2
  have hGT : G ≠ T := fun e => by rw [← e] at b3; cases b3.symm.trans b1
  refine ⟨⟨(hx G hG).1.trans b1, (P_u2_ne (by omega)).trans (((hx G hG).2 _).trans b2)⟩, (hx T hTl).1.trans b3, b4, fun s x y => ?_⟩
  obtain ⟨⟨k1, k2, k3⟩, k4⟩ := b5 s x y
  have ktl := (hlt _ _ _ k2).2
  by_cases e : s = t
  · subst e
    simp only [if_true, G_dr_at]
    refine ⟨⟨P_u2_at, hN, by omega, k3.2⟩, fun j a2 b2 => ?_⟩
    have hj : ∀ i, 0 ≤ i → i < (rT s : Int) → (g' (tr s i) = some (4, .inr (.inl (cT s)))) ∧ ∀ c, 0 ≤ c → c < (cT s : Int) → (P_u2 τ' T s.toNat (N : Int)) (tr s i) c.toNat = VV s c i ∧ -1 ≤ VV s c i ∧ VV s c i ≤ 3 := by
      intro i i0 i1
      obtain ⟨⟨m1, m2⟩, m3⟩ := k4 i i0 i1
      have ml := (hlt _ _ _ m2).2
      have mT : tr s i ≠ T := fun e => by rw [e] at m2; cases m2.symm.trans b3
      exact ⟨(hx _ ml).1.trans m2, fun c c0 c1 => ⟨(P_u2_ne (by omega)).trans (((hx _ ml).2 _).trans (m3 c c0 c1).1), (m3 c c0 c1).2⟩⟩
    by_cases q : j < p
    · have hp1 := (k4 j a2 (by omega)).1.1
      simp only [true_and, if_neg (show ¬ ¬ j < p from fun z => z q), G_dV_at, if_pos q]
      refine ⟨⟨(P_u2_ne (by omega)).trans ((h1 j.toNat (by omega)).trans hp1), (hj j a2 (by omega)).1⟩, fun c c0 c1 => (hj j a2 (by omega)).2 c c0 c1⟩
    · have hp1 := (k4 (j + 1) (by omega) (by omega)).1.1
      simp only [true_and, if_pos q, G_dV_at, if_neg q]
      refine ⟨⟨(P_u2_ne (by omega)).trans ((h2 j.toNat (by omega) (by omega)).trans (by rw [← hp1]; congr 1; omega)), (hj (j + 1) (by omega) (by omega)).1⟩, fun c c0 c1 => (hj (j + 1) (by omega) (by omega)).2 c c0 c1⟩
  · simp only [if_neg e, G_dr_ne e, if_neg (show ¬ (s = t ∧ _) from fun z => e z.1)]
    have hjj : ∀ j, ¬ (s = t ∧ ¬ j < p) := fun j z => e z.1
    refine ⟨⟨(P_u2_ne (by omega)).trans (((hx T hTl).2 _).trans k1), (hx _ ktl).1.trans k2, k3⟩, fun j a2 b2 => ?_⟩
    obtain ⟨⟨m1, m2⟩, m3⟩ := k4 j a2 b2
    have ml := (hlt _ _ _ m2).2
    have mT : tr s j ≠ T := fun e => by rw [e] at m2; cases m2.symm.trans b3
    have kT : tt s ≠ T := fun e => by rw [e] at k2; cases k2.symm.trans b3
    simp only [if_neg (hjj j), G_dV_ne e]
    exact ⟨⟨(P_u2_ne (by omega)).trans (((hx _ ktl).2 _).trans m1), (hx _ ml).1.trans m2⟩, fun c c0 c1 => ⟨(P_u2_ne (by omega)).trans (((hx _ ml).2 _).trans (m3 c c0 c1).1), (m3 c c0 c1).2⟩⟩
def G_F22 (j : Nat) : Prop := j = 2
theorem g_dr0 {d : Nat} {w : P_Lw} {σ : P_A} {g : P_Gl} {τ : P_A} {N u : Nat} {Q : P_GQ} {G : Nat} {T nt : Nat} {tt : Int → Nat} {rT : Int → Nat} {tr : Int → Int → Nat} {cT : Int → Nat} {VV : Int → Int → Int → Int} (hT : P_gT g τ G T nt tt rT tr cT VV) {t : Int} (ht : 0 ≤ t ∧ t < (nt : Int)) (h0 : rT t = 0) (q : Q (.inl (some (P_z 1))) w σ g τ N u) : P_gw (d + 8) 188 0 [.ref G, P_z t, P_un] [] w σ g τ N u Q := by
  have hn2 := hT.2.2.1
  refine P_gw_op (L' := [.ref G, P_z t, P_un]) (st' := [.ref G]) P_i188_0 rfl (show P_gw _ _ 1 [.ref G, P_z t, P_un] [.ref G] _ _ _ _ _ _ _ from ?_)
  refine P_gw_getR (P_i188_1) (hT.1.1) rfl rfl (hT.1.2) (show P_gw _ _ 4 [.ref G, P_z t, P_un] [.ref T] _ _ _ _ _ _ _ from ?_)
  refine P_gw_op (L' := [.ref G, P_z t, P_un]) (st' := [P_z t, .ref T]) P_i188_4 rfl (show P_gw _ _ 5 [.ref G, P_z t, P_un] [P_z t, .ref T] _ _ _ _ _ _ _ from ?_)
  have hg1 := (hT.2.2.2 t (by omega) (by omega)).1.2.2
  refine P_gw_rld (b := (tt t)) P_i188_5 (hT.2.1) (by decide) (by omega) (by omega) (by omega) ((hT.2.2.2 t (by omega) (by omega)).1.1) (show P_gw _ _ 6 [.ref G, P_z t, P_un] [.ref (tt t)] _ _ _ _ _ _ _ from ?_)
  refine P_gw_rlen P_i188_6 ((hT.2.2.2 t (by omega) (by omega)).1.2.1) (show P_gw _ _ 7 [.ref G, P_z t, P_un] [P_z ((rT t : Nat) : Int)] _ _ _ _ _ _ _ from ?_)
  refine P_gw_izf P_i188_7 ⟨by omega, by omega⟩ (P_ci_nef (by omega)) (show P_gw _ _ 10 [.ref G, P_z t, P_un] [] _ _ _ _ _ _ _ from ?_)
  refine P_gw_op (L' := [.ref G, P_z t, P_un]) (st' := [P_z 1]) P_i188_10 rfl (show P_gw _ _ 11 [.ref G, P_z t, P_un] [P_z 1] _ _ _ _ _ _ _ from ?_)
  refine P_gw_end P_i188_11 rfl rfl (fun _ => rfl) rfl ?_
  exact q

theorem g_dr1 {d : Nat} {w : P_Lw} {σ : P_A} {g : P_Gl} {τ : P_A} {N u : Nat} {Q : P_GQ} (hw : P_Cw w) {G : Nat} {T nt : Nat} {tt : Int → Nat} {rT : Int → Nat} {tr : Int → Int → Nat} {cT : Int → Nat} {VV : Int → Int → Int → Int} (hT : P_gT g τ G T nt tt rT tr cT VV) (hct : G_ct w σ nt rT cT VV) {t : Int} (ht : 0 ≤ t ∧ t < (nt : Int)) (hr1 : 1 ≤ rT t) (h0 : τ G 0 = ((w.2.2 0 : Nat) : Int)) (hs1 : τ G 1 = ((0 : Nat) : Int)) {dr : Int} (hdr2 : τ G 2 = dr) (hdr : 0 ≤ dr ∧ dr ≤ 999990) (q : ∀ p, 0 ≤ p → p < (rT t : Int) → ∀ g1 τ1 u1 tt1 tr1, u1 ≤ u + 10 → G_fr G_R2 G_2 g τ g1 τ1 → P_gT g1 τ1 G T nt tt1 (G_dr rT t) tr1 cT (G_dV VV t p) → τ1 G 2 = dr + 1 → Q (.inl (some (P_z 1))) w (G_ds σ rT cT VV t p) g1 τ1 (N + 1) u1) : P_gw (d + 8) 188 0 [.ref G, P_z t, P_un] [] w σ g τ N u Q := by
  refine P_gw_lts (fun hlt => ?_)
  have hn2 := hT.2.2.1
  have hG2 := hlt _ _ _ hT.1.1
  have hT22 := hlt _ _ _ hT.2.1
  have hr7 := (hT.2.2.2 t ht.1 ht.2).1.2.2.1
  have hGT : G ≠ T := fun e => by have h := hT.2.1; rw [← e] at h; cases h.symm.trans hT.1.1
  refine P_gw_op (L' := [.ref G, P_z t, P_un]) (st' := [.ref G]) P_i188_0 rfl (show P_gw _ _ 1 [.ref G, P_z t, P_un] [.ref G] _ _ _ _ _ _ _ from ?_)
  refine P_gw_getR (P_i188_1) (hT.1.1) rfl rfl (hT.1.2) (show P_gw _ _ 4 [.ref G, P_z t, P_un] [.ref T] _ _ _ _ _ _ _ from ?_)
  refine P_gw_op (L' := [.ref G, P_z t, P_un]) (st' := [P_z t, .ref T]) P_i188_4 rfl (show P_gw _ _ 5 [.ref G, P_z t, P_un] [P_z t, .ref T] _ _ _ _ _ _ _ from ?_)
  have hg1 := (hT.2.2.2 t (by omega) (by omega)).1.2.2
  refine P_gw_rld (b := (tt t)) P_i188_5 (hT.2.1) (by decide) (by omega) (by omega) (by omega) ((hT.2.2.2 t (by omega) (by omega)).1.1) (show P_gw _ _ 6 [.ref G, P_z t, P_un] [.ref (tt t)] _ _ _ _ _ _ _ from ?_)
  refine P_gw_rlen P_i188_6 ((hT.2.2.2 t (by omega) (by omega)).1.2.1) (show P_gw _ _ 7 [.ref G, P_z t, P_un] [P_z ((rT t : Nat) : Int)] _ _ _ _ _ _ _ from ?_)
  refine P_gw_izt P_i188_7 ⟨by omega, by omega⟩ (P_ci_net (by omega)) (show P_gw _ _ 12 [.ref G, P_z t, P_un] [] _ _ _ _ _ _ _ from ?_)
  refine P_gw_op (L' := [.ref G, P_z t, P_un]) (st' := [.ref G]) P_i188_12 rfl (show P_gw _ _ 13 [.ref G, P_z t, P_un] [.ref G] _ _ _ _ _ _ _ from ?_)
  refine P_gw_op (L' := [.ref G, P_z t, P_un]) (st' := [.ref G, .ref G]) P_i188_13 rfl (show P_gw _ _ 14 [.ref G, P_z t, P_un] [.ref G, .ref G] _ _ _ _ _ _ _ from ?_)
  refine P_gw_getR (P_i188_14) (hT.1.1) rfl rfl (hT.1.2) (show P_gw _ _ 17 [.ref G, P_z t, P_un] [.ref T, .ref G] _ _ _ _ _ _ _ from ?_)
  refine P_gw_op (L' := [.ref G, P_z t, P_un]) (st' := [P_z t, .ref T, .ref G]) P_i188_17 rfl (show P_gw _ _ 18 [.ref G, P_z t, P_un] [P_z t, .ref T, .ref G] _ _ _ _ _ _ _ from ?_)
  have hg2 := (hT.2.2.2 t (by omega) (by omega)).1.2.2
  refine P_gw_rld (b := (tt t)) P_i188_18 (hT.2.1) (by decide) (by omega) (by omega) (by omega) ((hT.2.2.2 t (by omega) (by omega)).1.1) (show P_gw _ _ 19 [.ref G, P_z t, P_un] [.ref (tt t), .ref G] _ _ _ _ _ _ _ from ?_)
  refine P_gw_rlen P_i188_19 ((hT.2.2.2 t (by omega) (by omega)).1.2.1) (show P_gw _ _ 20 [.ref G, P_z t, P_un] [P_z ((rT t : Nat) : Int), .ref G] _ _ _ _ _ _ _ from ?_)
  refine P_gw_call P_i188_20 rfl rfl (fun _ => rfl) rfl rfl rfl rfl (y2 := 182) (as := [.ref G, P_z ((rT t : Nat) : Int)]) (r0 := []) (P_ginv_v (hT.1.1) rfl rfl) (Nat.le_of_ble_eq_true rfl) (by decide) rfl (Nat.le_of_ble_eq_true rfl) (s_draw (hT.1.1) (hs1) (hdr2) (by omega) (by omega) (fun v3 hv3a hv3b => ?_))
  show P_gw _ _ 23 [.ref G, P_z t, P_un] [P_z v3] _ _ _ _ _ _ _
  refine P_gw_op (L' := [.ref G, P_z t, P_z v3]) (st' := []) P_i188_23 rfl (show P_gw _ _ 24 [.ref G, P_z t, P_z v3] [] _ _ _ _ _ _ _ from ?_)
  refine P_gw_op (L' := [.ref G, P_z t, P_z v3]) (st' := [.ref G]) P_i188_24 rfl (show P_gw _ _ 25 [.ref G, P_z t, P_z v3] [.ref G] _ _ _ _ _ _ _ from ?_)
  refine P_gw_getR (P_i188_25) (hT.1.1) rfl rfl ((P_u2_ne (by omega)).trans (hT.1.2)) (show P_gw _ _ 28 [.ref G, P_z t, P_z v3] [.ref T] _ _ _ _ _ _ _ from ?_)
  refine P_gw_op (L' := [.ref G, P_z t, P_z v3]) (st' := [P_z t, .ref T]) P_i188_28 rfl (show P_gw _ _ 29 [.ref G, P_z t, P_z v3] [P_z t, .ref T] _ _ _ _ _ _ _ from ?_)
  refine P_gw_op (L' := [.ref G, P_z t, P_z v3]) (st' := [.ref G, P_z t, .ref T]) P_i188_29 rfl (show P_gw _ _ 30 [.ref G, P_z t, P_z v3] [.ref G, P_z t, .ref T] _ _ _ _ _ _ _ from ?_)
  refine P_gw_getR (P_i188_30) (hT.1.1) rfl rfl ((P_u2_ne (by omega)).trans (hT.1.2)) (show P_gw _ _ 33 [.ref G, P_z t, P_z v3] [.ref T, P_z t, .ref T] _ _ _ _ _ _ _ from ?_)
  refine P_gw_op (L' := [.ref G, P_z t, P_z v3]) (st' := [P_z t, .ref T, P_z t, .ref T]) P_i188_33 rfl (show P_gw _ _ 34 [.ref G, P_z t, P_z v3] [P_z t, .ref T, P_z t, .ref T] _ _ _ _ _ _ _ from ?_)
  have hg4 := (hT.2.2.2 t (by omega) (by omega)).1.2.2
  refine P_gw_rld (b := (tt t)) P_i188_34 (hT.2.1) (by decide) (by omega) (by omega) (by omega) ((P_u2_ne (by omega)).trans ((hT.2.2.2 t (by omega) (by omega)).1.1)) (show P_gw _ _ 35 [.ref G, P_z t, P_z v3] [.ref (tt t), P_z t, .ref T] _ _ _ _ _ _ _ from ?_)
  refine P_gw_op (L' := [.ref G, P_z t, P_z v3]) (st' := [P_z v3, .ref (tt t), P_z t, .ref T]) P_i188_35 rfl (show P_gw _ _ 36 [.ref G, P_z t, P_z v3] [P_z v3, .ref (tt t), P_z t, .ref T] _ _ _ _ _ _ _ from ?_)
  have hf2 : G_fr G_0 G_2 g τ g (P_u2 τ G 2 (dr + 1)) := G_fr_f hT.1.1 rfl
  have hT2 := P_gT_fr hf2 (fun _ _ _ => id) (by unfold G_2; omega) hT
  refine P_gw_call P_i188_36 rfl rfl (fun _ => rfl) rfl rfl rfl rfl (y2 := 185) (as := [.ref (tt t), P_z v3]) (r0 := [P_z t, .ref T]) (fun _ _ => rfl) (Nat.le_of_ble_eq_true rfl) (by decide) rfl (Nat.le_of_ble_eq_true rfl) (s_wout 3 (hT2.2.2.2 t (by omega) (by omega)).1.2.1 (G_T_rw hT2 hlt (by omega) (by omega)) (by omega) (by omega) (fun g' τ' u' hx hN h1 h2 hu => ?_))
  have hT3 := G_T_drop hT2 hlt (t := t) (p := v3) (by omega) (by omega) hx hN h1 h2
  have hf3 : G_fr G_R2 G_2 g τ g' (P_u2 τ' T t.toNat (N : Int)) := G_fr_tr (G_fr_le (fun _ h => h.elim) (fun _ h => h) hf2) (G_fr_tr (G_fr_xt hlt hx) (G_fr_r ((hx T (by omega)).1.trans hT.2.1) rfl))
  have hg2 : (P_u2 τ' T t.toNat (N : Int)) G 2 = dr + 1 := (P_u2_ne (by omega)).trans (((hx G (by omega)).2 _).trans P_u2_at)
  show P_gw _ _ 39 [.ref G, P_z t, P_z v3] [.ref N, P_z t, .ref T] _ _ _ _ _ _ _
  refine P_gw_rst P_i188_39 (((hx T (by omega)).1).trans (hT.2.1)) (hN) rfl (by decide) (by omega) (by omega) (by omega) (show P_gw _ _ 40 [.ref G, P_z t, P_z v3] [] _ _ _ _ _ _ _ from ?_)
  refine P_gw_op (L' := [.ref G, P_z t, P_z v3]) (st' := [.ref G]) P_i188_40 rfl (show P_gw _ _ 41 [.ref G, P_z t, P_z v3] [.ref G] _ _ _ _ _ _ _ from ?_)
  refine P_gw_getR (P_i188_41) (((hx G (by omega)).1).trans (hT.1.1)) rfl rfl ((P_u2_ne (by omega)).trans (((hx G (by omega)).2 0).trans ((P_u2_ne (by omega)).trans (h0)))) (show P_gw _ _ 44 [.ref G, P_z t, P_z v3] [.ref (w.2.2 0)] _ _ _ _ _ _ _ from ?_)
  refine P_gw_op (L' := [.ref G, P_z t, P_z v3]) (st' := [P_z t, .ref (w.2.2 0)]) P_i188_44 rfl (show P_gw _ _ 45 [.ref G, P_z t, P_z v3] [P_z t, .ref (w.2.2 0)] _ _ _ _ _ _ _ from ?_)
  refine P_gw_op (L' := [.ref G, P_z t, P_z v3]) (st' := [P_z v3, P_z t, .ref (w.2.2 0)]) P_i188_45 rfl (show P_gw _ _ 46 [.ref G, P_z t, P_z v3] [P_z v3, P_z t, .ref (w.2.2 0)] _ _ _ _ _ _ _ from ?_)
  refine P_gw_cls P_i188_46 rfl rfl (fun _ => rfl) rfl rfl rfl rfl (y2 := 140) (as := [.ref (w.2.2 0), P_z t, P_z v3]) (r0 := []) (P_inv_v (hw.2.1 0 (by decide)) (hw.s rfl) rfl rfl) (Nat.le_of_ble_eq_true rfl) (by decide) rfl (Nat.le_of_ble_eq_true rfl) (G_s_drop hw hct (by omega) (by omega) ?_)
  show P_gw _ _ 49 [.ref G, P_z t, P_z v3] [P_z (((rT t : Nat) : Int) - 1)] _ _ _ _ _ _ _
  refine P_gw_op (L' := [.ref G, P_z t, P_z v3]) (st' := [.ref G, P_z (((rT t : Nat) : Int) - 1)]) P_i188_49 rfl (show P_gw _ _ 50 [.ref G, P_z t, P_z v3] [.ref G, P_z (((rT t : Nat) : Int) - 1)] _ _ _ _ _ _ _ from ?_)
  refine P_gw_getR (P_i188_50) (((hx G (by omega)).1).trans (hT.1.1)) rfl rfl ((P_u2_ne (by omega)).trans (((hx G (by omega)).2 3).trans ((P_u2_ne (by omega)).trans (hT.1.2)))) (show P_gw _ _ 53 [.ref G, P_z t, P_z v3] [.ref T, P_z (((rT t : Nat) : Int) - 1)] _ _ _ _ _ _ _ from ?_)
  refine P_gw_op (L' := [.ref G, P_z t, P_z v3]) (st' := [P_z t, .ref T, P_z (((rT t : Nat) : Int) - 1)]) P_i188_53 rfl (show P_gw _ _ 54 [.ref G, P_z t, P_z v3] [P_z t, .ref T, P_z (((rT t : Nat) : Int) - 1)] _ _ _ _ _ _ _ from ?_)
  refine P_gw_rld (b := N) P_i188_54 (((hx T (by omega)).1).trans (hT.2.1)) (by decide) (by omega) (by omega) (by omega) (P_u2_at) (show P_gw _ _ 55 [.ref G, P_z t, P_z v3] [.ref N, P_z (((rT t : Nat) : Int) - 1)] _ _ _ _ _ _ _ from ?_)
  refine P_gw_rlen P_i188_55 (hN) (show P_gw _ _ 56 [.ref G, P_z t, P_z v3] [P_z ((rT t - 1 : Nat) : Int), P_z (((rT t : Nat) : Int) - 1)] _ _ _ _ _ _ _ from ?_)
  refine P_gw_icf P_i188_56 ⟨by omega, by omega⟩ ⟨by omega, by omega⟩ (P_ci_nef (by omega)) (show P_gw _ _ 59 [.ref G, P_z t, P_z v3] [] _ _ _ _ _ _ _ from ?_)
  refine P_gw_op (L' := [.ref G, P_z t, P_z v3]) (st' := [P_z 1]) P_i188_59 rfl (show P_gw _ _ 60 [.ref G, P_z t, P_z v3] [P_z 1] _ _ _ _ _ _ _ from ?_)
  refine P_gw_goto P_i188_60 (show P_gw _ _ 64 [.ref G, P_z t, P_z v3] [P_z 1] _ _ _ _ _ _ _ from ?_)
  refine P_gw_end P_i188_64 rfl rfl (fun _ => rfl) rfl ?_
  exact q _ (by omega) (by omega) g' _ u' _ _ (by omega) hf3 hT3 hg2
