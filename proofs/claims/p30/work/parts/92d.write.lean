/-! the law's own methods, written by wip/g1.py: 92d.write -/
/-- a row of ints that Grove holds -/
def P_gRw (g : P_Gl) (τ : P_A) (G f r A m : Nat) (fn : Int → Int) : Prop := P_gf g τ G f A ∧ g A = some (r, .inr (.inl m)) ∧ ∀ j, 0 ≤ j → j < (m : Int) → τ A j.toNat = fn j
def G_up (fn : Int → Int) (m : Nat) (v : Int) : Int → Int := fun j => if j = (m : Int) then v else fn j
theorem G_up_at {fn : Int → Int} {m : Nat} {v : Int} : G_up fn m v (m : Int) = v := if_pos rfl
theorem G_up_ne {fn : Int → Int} {m : Nat} {v j : Int} (h : j ≠ (m : Int)) : G_up fn m v j = fn j := if_neg h
theorem P_gRw_fr {R F : Nat → Prop} {g g' : P_Gl} {τ τ' : P_A} {G f r A m : Nat} {fn : Int → Int} (h : G_fr R F g τ g' τ') (hR : ¬ R 1 ∧ ¬ R r) (hr : r ≠ 1) (hF : ¬ F f) (hK : P_gRw g τ G f r A m fn) : P_gRw g' τ' G f r A m fn := ⟨P_gf_fr h hR.1 hF hK.1, (h _ _ _ hK.2.1).1, fun j a b => ((h _ _ _ hK.2.1).2 _ (fun q => absurd q hr) hR.2).trans (hK.2.2 j a b)⟩
theorem P_gRw_add {g g' : P_Gl} {τ τ' : P_A} {G f r A m N : Nat} {fn : Int → Int} {v : Int} (hG : g G = some (1, .inl (11, [true, true, false, true, true, true, true, true, false, false, false, true, true, false, false, false]))) (hGN : G < N) (hx : P_xt N g τ g' τ') (hN : g' N = some (r, .inr (.inl (m + 1)))) (h1 : ∀ j, j < m → τ' N j = τ A j) (h2 : τ' N m = v) (hA : ∀ j, 0 ≤ j → j < (m : Int) → τ A j.toNat = fn j) : P_gRw g' (P_u2 τ' G f (N : Int)) G f r N (m + 1) (G_up fn m v) := by
  refine ⟨⟨(hx G hGN).1.trans hG, P_u2_at⟩, hN, fun j a b => (P_u2_ne (by omega)).trans ?_⟩
  by_cases e : j = (m : Int)
  · rw [e, G_up_at, Int.toNat_natCast]; exact h2
  · rw [G_up_ne e, h1 j.toNat (by omega)]; exact hA j a (by omega)
theorem P_gRw_new {g : P_Gl} {τ : P_A} {G f r N : Nat} {fn : Int → Int} {s : Nat → Int} (hG : g G = some (1, .inl (11, [true, true, false, true, true, true, true, true, false, false, false, true, true, false, false, false]))) (hGN : G < N) : P_gRw (P_gN g N r (.inr (.inl (0 : Int).toNat))) (P_u2 (P_tN τ N s) G f (N : Int)) G f r N 0 fn := ⟨⟨(P_gN_ne (by omega)).trans hG, P_u2_at⟩, P_gN_at, fun j a b => by omega⟩
theorem G_fr_new {R F : Nat → Prop} {g : P_Gl} {τ : P_A} {G f ro N : Nat} {sh shG : P_Sg} {s : Nat → Int} {v : Int} (hlt : ∀ a r sh, g a = some (r, sh) → 2 ≤ a ∧ a < N) (hG : g G = some (1, shG)) (hF : F f) : G_fr R F g τ (P_gN g N ro sh) (P_u2 (P_tN τ N s) G f v) :=
  G_fr_tr (G_fr_xt hlt (fun x hx => ⟨P_gN_ne (by omega), fun j => P_tN_ne (by omega)⟩)) (G_fr_f ((P_gN_ne (by have := (hlt _ _ _ hG).2; omega)).trans hG) hF)
def G_Fw (j : Nat) : Prop := j = 2 ∨ 6 ≤ j
theorem G_nFw {j : Nat} (h : j ≠ 2 ∧ j < 6) : ¬ G_Fw j := by unfold G_Fw; omega
theorem wr_S {d : Nat} {w : P_Lw} {σ : P_A} {Q : P_GQ} {G T : Nat} {tt : Int → Nat} {rT : Int → Nat} {tr : Int → Int → Nat} {cT : Int → Nat} {VV : Int → Int → Int → Int} {L K : Nat} {tk : List Int} : ∀ (n : Nat) (g : P_Gl) (τ : P_A) (N : Nat) (u : Nat) (S : Nat) (m : Nat) (sn : Int → Int) (k : Int) (dr : Int), (G_Wb w σ g τ G T tt rT tr cT VV L K tk dr) → (P_gRw g τ G 7 9 S m sn) → (∀ j, 0 ≤ j → j < (m : Int) → 0 ≤ sn j ∧ sn j < 3) → (k + 1 = (n : Nat)) → ((m : Int) + (n : Nat) ≤ 3) → (0 ≤ dr ∧ dr + (n : Nat) ≤ 900000) → (∀ g' τ' N' u' S' sn' dr', G_Wb w σ g' τ' G T tt rT tr cT VV L K tk dr' → P_gRw g' τ' G 7 9 S' (m + n) sn' → (∀ j, 0 ≤ j → j < ((m + n : Nat) : Int) → 0 ≤ sn' j ∧ sn' j < 3) → u' ≤ u + 50 * n → dr ≤ dr' → dr' ≤ dr + (n : Nat) → P_gw (d + 12) 192 79 [.ref G, P_z (-1), P_un, P_un, P_un, P_un] [] w σ g' τ' N' u' Q) → P_gw (d + 12) 192 49 [.ref G, P_z k, P_un, P_un, P_un, P_un] [] w σ g τ N u Q := by
  intro n
  induction n with
  | zero =>
    intro g τ N u S m sn k dr hv0 hv1 hv2 hv3 hv4 hv5 q
    have hb := hv0
    have hSp := hv1
    have hrg := hv2
    refine P_gw_op (L' := [.ref G, P_z k, P_un, P_un, P_un, P_un]) (st' := [P_z k]) P_i192_49 rfl (show P_gw _ _ 50 [.ref G, P_z k, P_un, P_un, P_un, P_un] [P_z k] _ _ _ _ _ _ _ from ?_)
    refine P_gw_izt P_i192_50 ⟨by omega, by omega⟩ (P_ci_ltt (by omega)) (show P_gw _ _ 79 [.ref G, P_z k, P_un, P_un, P_un, P_un] [] _ _ _ _ _ _ _ from ?_)
    obtain rfl : k = -1 := by omega
    exact q g τ N u S sn dr hb hSp hrg (by omega) (by omega) (by omega)
  | succ n ih =>
    intro g τ N u S m sn k dr hv0 hv1 hv2 hv3 hv4 hv5 q
    have hb := hv0
    have hSp := hv1
    have hrg := hv2
    refine P_gw_lts (fun hlt => ?_)
    obtain ⟨hT, hL, hK, hct, hTK, h0, hs1, hdr2⟩ := id hb
    have hlG := hlt _ _ _ hT.1.1
    have hlS := (hlt _ _ _ hSp.2.1).2
    refine P_gw_op (L' := [.ref G, P_z k, P_un, P_un, P_un, P_un]) (st' := [P_z k]) P_i192_49 rfl (show P_gw _ _ 50 [.ref G, P_z k, P_un, P_un, P_un, P_un] [P_z k] _ _ _ _ _ _ _ from ?_)
    refine P_gw_izf P_i192_50 ⟨by omega, by omega⟩ (P_ci_ltf (by omega)) (show P_gw _ _ 53 [.ref G, P_z k, P_un, P_un, P_un, P_un] [] _ _ _ _ _ _ _ from ?_)
    refine P_gw_op (L' := [.ref G, P_z k, P_un, P_un, P_un, P_un]) (st' := [.ref G]) P_i192_53 rfl (show P_gw _ _ 54 [.ref G, P_z k, P_un, P_un, P_un, P_un] [.ref G] _ _ _ _ _ _ _ from ?_)
    refine P_gw_op (L' := [.ref G, P_z k, P_un, P_un, P_un, P_un]) (st' := [.ref G, .ref G]) P_i192_54 rfl (show P_gw _ _ 55 [.ref G, P_z k, P_un, P_un, P_un, P_un] [.ref G, .ref G] _ _ _ _ _ _ _ from ?_)
    refine P_gw_getR (P_i192_55) (hT.1.1) rfl rfl (hSp.1.2) (show P_gw _ _ 58 [.ref G, P_z k, P_un, P_un, P_un, P_un] [.ref S, .ref G] _ _ _ _ _ _ _ from ?_)
    refine P_gw_op (L' := [.ref G, P_z k, P_un, P_un, P_un, P_un]) (st' := [.ref G, .ref S, .ref G]) P_i192_58 rfl (show P_gw _ _ 59 [.ref G, P_z k, P_un, P_un, P_un, P_un] [.ref G, .ref S, .ref G] _ _ _ _ _ _ _ from ?_)
    refine P_gw_op (L' := [.ref G, P_z k, P_un, P_un, P_un, P_un]) (st' := [.ref G, .ref G, .ref S, .ref G]) P_i192_59 rfl (show P_gw _ _ 60 [.ref G, P_z k, P_un, P_un, P_un, P_un] [.ref G, .ref G, .ref S, .ref G] _ _ _ _ _ _ _ from ?_)
    refine P_gw_getR (P_i192_60) (hT.1.1) rfl rfl (hT.1.2) (show P_gw _ _ 63 [.ref G, P_z k, P_un, P_un, P_un, P_un] [.ref T, .ref G, .ref S, .ref G] _ _ _ _ _ _ _ from ?_)
    refine P_gw_rlen P_i192_63 (hT.2.1) (show P_gw _ _ 64 [.ref G, P_z k, P_un, P_un, P_un, P_un] [P_z 3, .ref G, .ref S, .ref G] _ _ _ _ _ _ _ from ?_)
    refine P_gw_call P_i192_64 rfl rfl (fun _ => rfl) rfl rfl rfl rfl (y2 := 182) (as := [.ref G, P_z 3]) (r0 := [.ref S, .ref G]) (P_ginv_v (hT.1.1) rfl rfl) (Nat.le_of_ble_eq_true rfl) (by decide) rfl (Nat.le_of_ble_eq_true rfl) (s_draw (hT.1.1) (hs1) (hdr2) (by omega) (by omega) (fun v1 hv1a hv1b => ?_))
    show P_gw _ _ 67 [.ref G, P_z k, P_un, P_un, P_un, P_un] [P_z v1, .ref S, .ref G] _ _ _ _ _ _ _
    have hGS : S ≠ G := fun e => by have h := hSp.2.1; rw [e] at h; cases h.symm.trans hT.1.1
    refine P_gw_call P_i192_67 rfl rfl (fun _ => rfl) rfl rfl rfl rfl (y2 := 183) (as := [.ref S, P_z v1]) (r0 := [.ref G]) (fun _ _ => rfl) (Nat.le_of_ble_eq_true rfl) (by decide) rfl (Nat.le_of_ble_eq_true rfl) (s_plus 9 hSp.2.1 (by omega) (fun g' τ' u' hx hN h1 h2 hu => ?_))
    show P_gw _ _ 70 [.ref G, P_z k, P_un, P_un, P_un, P_un] [.ref N, .ref G] _ _ _ _ _ _ _
    refine P_gw_putR (b := N) P_i192_70 (((hx G (by omega)).1).trans (hT.1.1)) rfl rfl (fun _ => rfl) (show P_gw _ _ 73 [.ref G, P_z k, P_un, P_un, P_un, P_un] [] _ _ _ _ _ _ _ from ?_)
    refine P_gw_op (L' := [.ref G, P_z (k + (-1)), P_un, P_un, P_un, P_un]) (st' := []) P_i192_73 (P_o_iinc rfl) (show P_gw _ _ 76 [.ref G, P_z (k + (-1)), P_un, P_un, P_un, P_un] [] _ _ _ _ _ _ _ from ?_)
    refine P_gw_goto P_i192_76 (show P_gw _ _ 49 [.ref G, P_z (k + (-1)), P_un, P_un, P_un, P_un] [] _ _ _ _ _ _ _ from ?_)
    have hf : G_fr G_0 G_Fw g τ g' (P_u2 τ' G 7 (N : Int)) := G_fr_tr (G_fr_f hT.1.1 (Or.inl rfl)) (G_fr_tr (G_fr_xt hlt hx) (G_fr_f ((hx G (by omega)).1.trans hT.1.1) (Or.inr (by omega))))
    have hb1 := G_Wb_fr hf (fun r h => h.elim) (fun j h => h) ((P_u2_ne (by omega)).trans (((hx G (by omega)).2 _).trans P_u2_at)) hb
    have hS1 := P_gRw_add (f := 7) (fn := sn) hT.1.1 (by omega) hx hN h1 h2 (fun j a b => (P_u2_ne (by omega)).trans (hSp.2.2 j a b))
    have hr1 : ∀ j, 0 ≤ j → j < ((m + 1 : Nat) : Int) → 0 ≤ G_up sn m v1 j ∧ G_up sn m v1 j < 3 := fun j a b => by
      by_cases e : j = (m : Int)
      · rw [e, G_up_at]; omega
      · rw [G_up_ne e]; exact hrg j a (by omega)
    exact ih g' _ (N + 1) u' N (m + 1) (G_up sn m v1) (k + (-1)) _ hb1 hS1 hr1 (by omega) (by omega) (by omega) (fun g2 τ2 N2 u2 S2 sn2 dr2 a1 a2 a3 a4 a5 a6 => q g2 τ2 N2 u2 S2 sn2 dr2 a1 (by rw [show m + (n + 1) = m + 1 + n by omega]; exact a2) (by rw [show m + (n + 1) = m + 1 + n by omega]; exact a3) (by omega) (by omega) (by omega))

theorem P_gw_rr {d y pc : Nat} {L st : Nat → List Value} {w : P_Lw} {σ : P_A} {g : P_Gl} {τ : P_A} {N u : Nat} {Q : P_GQ} {Pr : P_Gl → P_A → Nat → Nat → Nat → Prop} (r0 : Nat) (h : Pr g τ N u r0) (k : ∀ g τ N u r0, Pr g τ N u r0 → P_gw d y pc (L r0) (st r0) w σ g τ N u Q) : P_gw d y pc (L r0) (st r0) w σ g τ N u Q := k g τ N u r0 h
theorem G_n2 {j : Nat} (h : j ≠ 2) : ¬ G_2 j := h
theorem G_n5f {j : Nat} (h : j ≠ 5) : ¬ G_5f j := h
theorem wr_1 {d : Nat} {w : P_Lw} {σ : P_A} {g : P_Gl} {τ : P_A} {N u : Nat} {Q : P_GQ} (hw : P_Cw w) {G : Nat} {T : Nat} {tt : Int → Nat} {rT : Int → Nat} {tr : Int → Int → Nat} {cT : Int → Nat} {VV : Int → Int → Int → Int} {L K : Nat} {tk : List Int} {dr : Int} (hb : G_Wb w σ g τ G T tt rT tr cT VV L K tk dr) (htk0 : tk.length ≤ 40) (hdr : 0 ≤ dr ∧ dr ≤ 800000) (q : ∀ σ' g' τ' N' u' S nn sn dr' K' tk', G_Wb w σ' g' τ' G T tt rT tr cT VV L K' tk' dr' → P_gS g' τ' G S nn 3 sn → tk' = [] → G_tf σ σ' → u' ≤ u + 300 → dr ≤ dr' → dr' ≤ dr + 5 → P_gw (d + 12) 192 79 [.ref G, P_z (-1), P_un, P_un, P_un, P_un] [] w σ' g' τ' N' u' Q) : P_gw (d + 12) 192 0 [.ref G, P_un, P_un, P_un, P_un, P_un] [] w σ g τ N u Q := by
  have hst : G_tf σ σ := G_tf_rf
  refine P_gw_lts (fun hlt => ?_)
  obtain ⟨hT, hL, hK, hct, hTK, h0, hs1, hdr2⟩ := id hb
  have hlG := hlt _ _ _ hT.1.1
  refine P_gw_op (L' := [.ref G, P_un, P_un, P_un, P_un, P_un]) (st' := [.ref G]) P_i192_0 rfl (show P_gw _ _ 1 [.ref G, P_un, P_un, P_un, P_un, P_un] [.ref G] _ _ _ _ _ _ _ from ?_)
  refine P_gw_getR (P_i192_1) (hT.1.1) rfl rfl (h0) (show P_gw _ _ 4 [.ref G, P_un, P_un, P_un, P_un, P_un] [.ref (w.2.2 0)] _ _ _ _ _ _ _ from ?_)
  refine P_gw_cls P_i192_4 rfl rfl (fun _ => rfl) rfl rfl rfl rfl (y2 := 142) (as := [.ref (w.2.2 0)]) (r0 := []) (P_inv_v (hw.2.1 0 (by decide)) (hw.s rfl) rfl rfl) (Nat.le_of_ble_eq_true rfl) (by decide) rfl (Nat.le_of_ble_eq_true rfl) (G_s_clr hw hTK (fun σ hTK hsf => ?_))
  have hst := G_tf_tr hst hsf
  have hct := G_tab_cg (fun a b h => hsf a b (by omega) (by omega) (by omega) (by omega)) hct
  show P_gw _ _ 7 [.ref G, P_un, P_un, P_un, P_un, P_un] [P_z ((tk.length : Nat) : Int)] _ _ _ _ _ _ _
  refine P_gw_op (L' := [.ref G, P_un, P_un, P_un, P_un, P_un]) (st' := [.ref G, P_z ((tk.length : Nat) : Int)]) P_i192_7 rfl (show P_gw _ _ 8 [.ref G, P_un, P_un, P_un, P_un, P_un] [.ref G, P_z ((tk.length : Nat) : Int)] _ _ _ _ _ _ _ from ?_)
  refine P_gw_getR (P_i192_8) (hT.1.1) rfl rfl (hK.1.2) (show P_gw _ _ 11 [.ref G, P_un, P_un, P_un, P_un, P_un] [.ref K, P_z ((tk.length : Nat) : Int)] _ _ _ _ _ _ _ from ?_)
  refine P_gw_alen P_i192_11 (hK.2) (show P_gw _ _ 12 [.ref G, P_un, P_un, P_un, P_un, P_un] [P_z ((tk.length : Nat) : Int), P_z ((tk.length : Nat) : Int)] _ _ _ _ _ _ _ from ?_)
  refine P_gw_ict P_i192_12 ⟨by omega, by omega⟩ ⟨by omega, by omega⟩ (P_ci_eqt (by omega)) (show P_gw _ _ 17 [.ref G, P_un, P_un, P_un, P_un, P_un] [] _ _ _ _ _ _ _ from ?_)
  refine P_gw_op (L' := [.ref G, P_un, P_un, P_un, P_un, P_un]) (st' := [.ref G]) P_i192_17 rfl (show P_gw _ _ 18 [.ref G, P_un, P_un, P_un, P_un, P_un] [.ref G] _ _ _ _ _ _ _ from ?_)
  refine P_gw_op (L' := [.ref G, P_un, P_un, P_un, P_un, P_un]) (st' := [P_z 0, .ref G]) P_i192_18 rfl (show P_gw _ _ 19 [.ref G, P_un, P_un, P_un, P_un, P_un] [P_z 0, .ref G] _ _ _ _ _ _ _ from ?_)
  refine P_gw_newi (11) P_i192_19 (by omega) (by omega) (show P_gw _ _ 21 [.ref G, P_un, P_un, P_un, P_un, P_un] [.ref N, .ref G] _ _ _ _ _ _ _ from ?_)
  refine P_gw_putR (b := N) P_i192_21 ((P_gN_ne (by omega)).trans (hT.1.1)) rfl rfl (fun _ => rfl) (show P_gw _ _ 24 [.ref G, P_un, P_un, P_un, P_un, P_un] [] _ _ _ _ _ _ _ from ?_)
  have hf : G_fr G_0 G_5f g τ (P_gN g N 11 (.inr (.inl (0 : Int).toNat))) (P_u2 (P_tN τ N (fun _ => 0)) G 5 ((N : Nat) : Int)) := G_fr_new hlt hT.1.1 rfl
  have hb := G_Wb_tok (tk' := []) (K' := N) hf hst ⟨⟨(P_gN_ne (by omega)).trans hT.1.1, P_u2_at⟩, P_gN_at⟩ hTK hb
  obtain ⟨tk, htk⟩ : ∃ x : List Int, x = [] := ⟨_, rfl⟩
  rw [← htk] at hb
  have htl := congrArg List.length htk
  simp only [List.length_nil] at htl
  obtain ⟨K, hKq⟩ : ∃ x, x = N := ⟨_, rfl⟩
  refine P_gw_re (Pr := fun g' τ' N' u' => G_Wb w σ g' τ' G T tt rT tr cT VV L K tk dr ∧ u' ≤ u + 5) ⟨hKq ▸ hb, by omega⟩ (fun g τ N u hre => ?_)
  obtain ⟨hb, hub⟩ := hre
  refine P_gw_lts (fun hlt => ?_)
  obtain ⟨hT, hL, hK, hct, hTK, h0, hs1, hdr2⟩ := id hb
  have hlG := hlt _ _ _ hT.1.1
  refine P_gw_op (L' := [.ref G, P_un, P_un, P_un, P_un, P_un]) (st' := [.ref G]) P_i192_24 rfl (show P_gw _ _ 25 [.ref G, P_un, P_un, P_un, P_un, P_un] [.ref G] _ _ _ _ _ _ _ from ?_)
  refine P_gw_op (L' := [.ref G, P_un, P_un, P_un, P_un, P_un]) (st' := [P_z 0, .ref G]) P_i192_25 rfl (show P_gw _ _ 26 [.ref G, P_un, P_un, P_un, P_un, P_un] [P_z 0, .ref G] _ _ _ _ _ _ _ from ?_)
  refine P_gw_newi (9) P_i192_26 (by omega) (by omega) (show P_gw _ _ 28 [.ref G, P_un, P_un, P_un, P_un, P_un] [.ref N, .ref G] _ _ _ _ _ _ _ from ?_)
  refine P_gw_putR (b := N) P_i192_28 ((P_gN_ne (by omega)).trans (hT.1.1)) rfl rfl (fun _ => rfl) (show P_gw _ _ 31 [.ref G, P_un, P_un, P_un, P_un, P_un] [] _ _ _ _ _ _ _ from ?_)
  have hf : G_fr G_0 G_Fw g τ (P_gN g N 9 (.inr (.inl (0 : Int).toNat))) (P_u2 (P_tN τ N (fun _ => 0)) G 7 ((N : Nat) : Int)) := G_fr_new hlt hT.1.1 (Or.inr (by omega))
  have hSp := P_gRw_new (f := 7) (r := 9) (τ := τ) (s := fun _ => 0) (fn := fun _ => 0) hT.1.1 (show G < N by omega)
  obtain ⟨S, hSq⟩ : ∃ x, x = N := ⟨_, rfl⟩
  have hb := G_Wb_fr hf (fun r h => h.elim) (fun j h => h) ((P_u2_ne (by omega)).trans ((P_tN_ne (by omega)).trans hdr2)) hb
  refine P_gw_re (Pr := fun g' τ' N' u' => G_Wb w σ g' τ' G T tt rT tr cT VV L K tk dr ∧ P_gRw g' τ' G 7 9 S 0 (fun _ => 0) ∧ u' ≤ u + 5) ⟨hb, hSq ▸ hSp, by omega⟩ (fun g τ N u hre => ?_)
  obtain ⟨hb, hSp, hub⟩ := hre
  refine P_gw_lts (fun hlt => ?_)
  obtain ⟨hT, hL, hK, hct, hTK, h0, hs1, hdr2⟩ := id hb
  have hlG := hlt _ _ _ hT.1.1
  refine P_gw_op (L' := [.ref G, P_un, P_un, P_un, P_un, P_un]) (st' := [.ref G]) P_i192_31 rfl (show P_gw _ _ 32 [.ref G, P_un, P_un, P_un, P_un, P_un] [.ref G] _ _ _ _ _ _ _ from ?_)
  refine P_gw_op (L' := [.ref G, P_un, P_un, P_un, P_un, P_un]) (st' := [P_z 5, .ref G]) P_i192_32 rfl (show P_gw _ _ 33 [.ref G, P_un, P_un, P_un, P_un, P_un] [P_z 5, .ref G] _ _ _ _ _ _ _ from ?_)
  refine P_gw_call P_i192_33 rfl rfl (fun _ => rfl) rfl rfl rfl rfl (y2 := 182) (as := [.ref G, P_z 5]) (r0 := []) (P_ginv_v (hT.1.1) rfl rfl) (Nat.le_of_ble_eq_true rfl) (by decide) rfl (Nat.le_of_ble_eq_true rfl) (g_drw hT.1.1 hs1 hdr2 (by omega) (by omega) (fun v1 τ dr hv1a hv1b hf hdq h2 => ?_))
  have hSp := P_gRw_fr hf ⟨id, id⟩ (by omega) (G_n2 (by omega)) hSp
  have hb := G_Wb_fr hf (fun r h => h.elim) (fun j h => Or.inl h) h2 hb
  obtain ⟨hT, hL, hK, hct, hTK, h0, hs1, hdr2⟩ := id hb
  show P_gw _ _ 36 [.ref G, P_un, P_un, P_un, P_un, P_un] [P_z v1] _ _ _ _ _ _ _
  by_cases hc2 : v1 = 0
  · refine P_gw_izf P_i192_36 ⟨by omega, by omega⟩ (P_ci_nef (by omega)) (show P_gw _ _ 39 [.ref G, P_un, P_un, P_un, P_un, P_un] [] _ _ _ _ _ _ _ from ?_)
    refine P_gw_op (L' := [.ref G, P_un, P_un, P_un, P_un, P_un]) (st' := [P_z 0]) P_i192_39 rfl (show P_gw _ _ 40 [.ref G, P_un, P_un, P_un, P_un, P_un] [P_z 0] _ _ _ _ _ _ _ from ?_)
    refine P_gw_goto P_i192_40 (show P_gw _ _ 48 [.ref G, P_un, P_un, P_un, P_un, P_un] [P_z 0] _ _ _ _ _ _ _ from ?_)
    refine P_gw_op (L' := [.ref G, P_z 0, P_un, P_un, P_un, P_un]) (st' := []) P_i192_48 rfl (show P_gw _ _ 49 [.ref G, P_z 0, P_un, P_un, P_un, P_un] [] _ _ _ _ _ _ _ from ?_)
    refine wr_S ((0 : Int) + 1).toNat g τ N u S 0 (fun _ => 0) 0 dr hb hSp (fun j a b => by omega) (by omega) (by omega) (by omega) (fun g τ N u S sn dr hb hSp hrg hub hd1 hd2 => ?_)
    exact q σ g τ N u S (0 + ((0 : Int) + 1).toNat) sn dr K _ hb ⟨hSp.1, hSp.2.1, by omega, fun s a b => ⟨hSp.2.2 s a b, hrg s a b⟩⟩ htk hst (by omega) (by omega) (by omega)
  · refine P_gw_izt P_i192_36 ⟨by omega, by omega⟩ (P_ci_net (by omega)) (show P_gw _ _ 43 [.ref G, P_un, P_un, P_un, P_un, P_un] [] _ _ _ _ _ _ _ from ?_)
    refine P_gw_op (L' := [.ref G, P_un, P_un, P_un, P_un, P_un]) (st' := [.ref G]) P_i192_43 rfl (show P_gw _ _ 44 [.ref G, P_un, P_un, P_un, P_un, P_un] [.ref G] _ _ _ _ _ _ _ from ?_)
    refine P_gw_op (L' := [.ref G, P_un, P_un, P_un, P_un, P_un]) (st' := [P_z 3, .ref G]) P_i192_44 rfl (show P_gw _ _ 45 [.ref G, P_un, P_un, P_un, P_un, P_un] [P_z 3, .ref G] _ _ _ _ _ _ _ from ?_)
    refine P_gw_call P_i192_45 rfl rfl (fun _ => rfl) rfl rfl rfl rfl (y2 := 182) (as := [.ref G, P_z 3]) (r0 := []) (P_ginv_v (hT.1.1) rfl rfl) (Nat.le_of_ble_eq_true rfl) (by decide) rfl (Nat.le_of_ble_eq_true rfl) (g_drw hT.1.1 hs1 hdr2 (by omega) (by omega) (fun v3 τ dr hv3a hv3b hf hdq h2 => ?_))
    have hSp := P_gRw_fr hf ⟨id, id⟩ (by omega) (G_n2 (by omega)) hSp
    have hb := G_Wb_fr hf (fun r h => h.elim) (fun j h => Or.inl h) h2 hb
    obtain ⟨hT, hL, hK, hct, hTK, h0, hs1, hdr2⟩ := id hb
    show P_gw _ _ 48 [.ref G, P_un, P_un, P_un, P_un, P_un] [P_z v3] _ _ _ _ _ _ _
    refine P_gw_op (L' := [.ref G, P_z v3, P_un, P_un, P_un, P_un]) (st' := []) P_i192_48 rfl (show P_gw _ _ 49 [.ref G, P_z v3, P_un, P_un, P_un, P_un] [] _ _ _ _ _ _ _ from ?_)
    refine wr_S ((v3 : Int) + 1).toNat g τ N u S 0 (fun _ => 0) v3 dr hb hSp (fun j a b => by omega) (by omega) (by omega) (by omega) (fun g τ N u S sn dr hb hSp hrg hub hd1 hd2 => ?_)
    exact q σ g τ N u S (0 + ((v3 : Int) + 1).toNat) sn dr K _ hb ⟨hSp.1, hSp.2.1, by omega, fun s a b => ⟨hSp.2.2 s a b, hrg s a b⟩⟩ htk hst (by omega) (by omega) (by omega)
