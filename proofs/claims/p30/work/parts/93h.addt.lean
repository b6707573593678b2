/-! the law's own methods, written by wip/g1.py: 93h.addt -/
theorem P_gM_ne {g : P_Gl} {N ro ri n x : Nat} (h : x < N) : P_gM g N ro ri n x = g x := by
  unfold P_gM
  rw [if_neg (by omega), if_neg (by omega)]
theorem P_tM_ne {τ : P_A} {N n x j : Nat} (h : x < N) : P_tM τ N n x j = τ x j := by
  unfold P_tM
  rw [if_neg (by omega), if_neg (by omega)]
theorem P_gM_at {g : P_Gl} {N ro ri n : Nat} : P_gM g N ro ri n N = some (ro, .inr (.inr (201, n))) := if_pos rfl
theorem P_gM_in {g : P_Gl} {N ro ri n j : Nat} (h : j < n) : P_gM g N ro ri n (N + 1 + j) = some (ri, .inr (.inr (200, 0))) := by
  unfold P_gM
  rw [if_neg (by omega), if_pos (by omega)]
theorem P_tM_at {τ : P_A} {N n j : Nat} (h : j < n) : P_tM τ N n N j = ((N + 1 + j : Nat) : Int) := by
  unfold P_tM
  rw [if_pos rfl, if_pos h]
/-- before the class's world: Grove, its tables without rows, the object's cells -/
def G_pb (g : P_Gl) (τ : P_A) (G T nt : Nat) (tt : Int → Nat) (cT : Int → Nat) (L K A : Nat) (bt : Nat → Nat) (dr : Int) : Prop :=
  P_gT g τ G T nt tt (fun _ => 0) (fun _ _ => 0) cT (fun _ _ _ => 0) ∧ P_gL g τ G L nt cT ∧ P_gK g τ G K 0 ∧ G_oq g τ A nt bt cT ∧ τ G 0 = ((A : Nat) : Int) ∧ τ G 1 = ((0 : Nat) : Int) ∧ τ G 2 = dr
def G_c1 (cT : Int → Nat) (nt c : Nat) : Int → Nat := fun s => if s = (nt : Int) then c else cT s
theorem G_L_add {g g' : P_Gl} {τ τ' : P_A} {G L N nt c : Nat} {cT : Int → Nat} {v : Int} (hL : P_gL g τ G L nt cT) (hGN : G < N) (hx : P_xt N g τ g' τ') (hN : g' N = some (10, .inr (.inl (nt + 1)))) (h1 : ∀ j, j < nt → τ' N j = τ L j) (h2 : τ' N nt = v) (hv : v = (c : Int)) (hc : 1 ≤ c ∧ c ≤ 3) : P_gL g' (P_u2 τ' G 4 (N : Int)) G N (nt + 1) (G_c1 cT nt c) := by
  obtain ⟨⟨a1, a2⟩, a3, a4⟩ := hL
  refine ⟨⟨(hx G hGN).1.trans a1, P_u2_at⟩, hN, fun t x y => ?_⟩
  unfold G_c1
  by_cases e : t = (nt : Int)
  · rw [if_pos e]
    exact ⟨(P_u2_ne (by omega)).trans (by rw [e, Int.toNat_natCast, h2, hv]), by omega⟩
  · rw [if_neg e]
    have := a4 t x (by omega)
    exact ⟨(P_u2_ne (by omega)).trans ((h1 t.toNat (by omega)).trans this.1), this.2⟩
theorem G_T_more {g : P_Gl} {τ : P_A} {G T nt r0 c : Nat} {tt : Int → Nat} {cT : Int → Nat} (hT : P_gT g τ G T nt tt (fun _ => 0) (fun _ _ => 0) cT (fun _ _ _ => 0)) (h5 : nt ≤ 4) (hc : 1 ≤ c ∧ c ≤ 3) (hr : g r0 = some (2, .inr (.inr (201, nt + 1)))) (hrT : r0 ≠ T) (hi : τ r0 nt = ((r0 + 1 + nt : Nat) : Int)) (hg : g (r0 + 1 + nt) = some (3, .inr (.inr (200, 0)))) : P_gT g (P_u2 (P_tN τ r0 (P_cps (τ T) (τ r0) 0 0 (nt : Int))) G 3 ((r0 : Nat) : Int)) G r0 (nt + 1) (fun s => if s = (nt : Int) then r0 + 1 + nt else tt s) (fun _ => 0) (fun _ _ => 0) (G_c1 cT nt c) (fun _ _ _ => 0) := by
  obtain ⟨⟨a1, a2⟩, a3, a4, a5⟩ := hT
  have hrG : r0 ≠ G := fun e => by rw [e] at hr; cases hr.symm.trans a1
  refine ⟨⟨a1, P_u2_at⟩, hr, by omega, fun t x y => ⟨?_, fun j p q => absurd q (by simp; omega)⟩⟩
  have ht : (P_u2 (P_tN τ r0 (P_cps (τ T) (τ r0) 0 0 (nt : Int))) G 3 ((r0 : Nat) : Int)) r0 t.toNat = P_cps (τ T) (τ r0) 0 0 (nt : Int) t.toNat := (P_u2_ne (by omega)).trans P_tN_at
  unfold G_c1
  by_cases e : t = (nt : Int)
  · simp only [if_pos e]
    refine ⟨ht.trans ?_, hg, by omega, hc⟩
    unfold P_cps
    rw [if_neg (by omega), e, Int.toNat_natCast, hi]
  · simp only [if_neg e]
    obtain ⟨⟨k1, k2, k3⟩, k4⟩ := a5 t x (by omega)
    refine ⟨ht.trans ?_, k2, k3⟩
    unfold P_cps
    rw [if_pos (by omega)]
    rw [← k1]
    congr 1
    simp
theorem G_T_cg {g : P_Gl} {τ : P_A} {G T nt : Nat} {tt : Int → Nat} {rT : Int → Nat} {tr : Int → Int → Nat} {cT cT' : Int → Nat} {VV : Int → Int → Int → Int} (h : ∀ t, 0 ≤ t → t < (nt : Int) → cT' t = cT t) (hT : P_gT g τ G T nt tt rT tr cT VV) : P_gT g τ G T nt tt rT tr cT' VV := by
  obtain ⟨a1, a2, a3, a4⟩ := hT
  refine ⟨a1, a2, a3, fun t x y => ?_⟩
  rw [h t x y]
  exact a4 t x y
def G_24 (j : Nat) : Prop := j = 2 ∨ j = 4
def G_3f (j : Nat) : Prop := j = 3
theorem g_adt {d : Nat} {w : P_Lw} {σ : P_A} {g : P_Gl} {τ : P_A} {N u : Nat} {Q : P_GQ} {G T nt : Nat} {tt cT : Int → Nat} {L K A : Nat} {bt : Nat → Nat} {dr : Int} (hb : G_pb g τ G T nt tt cT L K A bt dr) (hnt : nt ≤ 2) (hdr : 0 ≤ dr ∧ dr ≤ 800000) (q : ∀ g' τ' N' u' T' tt' cT' L' bt' dr', G_pb g' τ' G T' (nt + 1) tt' cT' L' K A bt' dr' → u' ≤ u + 200 → dr ≤ dr' → dr' ≤ dr + 1 → Q (.inl (some (P_z 1))) w σ g' τ' N' u') : P_gw (d + 7) 186 0 [.ref G, P_un, P_un] [] w σ g τ N u Q := by
  obtain ⟨hT, hL, hK, hq, h0, hs1, hdr2⟩ := hb
  have hG0 := hT.1.1
  refine P_gw_lts (fun hlt => ?_)
  have hlG := hlt _ _ _ hT.1.1
  refine P_gw_op (L' := [.ref G, P_un, P_un]) (st' := [.ref G]) P_i186_0 rfl (show P_gw _ _ 1 [.ref G, P_un, P_un] [.ref G] _ _ _ _ _ _ _ from ?_)
  refine P_gw_getR (P_i186_1) (hT.1.1) rfl rfl (hT.1.2) (show P_gw _ _ 4 [.ref G, P_un, P_un] [.ref T] _ _ _ _ _ _ _ from ?_)
  refine P_gw_rlen P_i186_4 (hT.2.1) (show P_gw _ _ 5 [.ref G, P_un, P_un] [P_z ((nt : Nat) : Int)] _ _ _ _ _ _ _ from ?_)
  refine P_gw_op (L' := [.ref G, P_un, P_un]) (st' := [P_z 5, P_z ((nt : Nat) : Int)]) P_i186_5 rfl (show P_gw _ _ 6 [.ref G, P_un, P_un] [P_z 5, P_z ((nt : Nat) : Int)] _ _ _ _ _ _ _ from ?_)
  refine P_gw_ict P_i186_6 ⟨by omega, by omega⟩ ⟨by decide, by decide⟩ (P_ci_net (by omega)) (show P_gw _ _ 11 [.ref G, P_un, P_un] [] _ _ _ _ _ _ _ from ?_)
  refine P_gw_op (L' := [.ref G, P_un, P_un]) (st' := [P_z 1]) P_i186_11 rfl (show P_gw _ _ 12 [.ref G, P_un, P_un] [P_z 1] _ _ _ _ _ _ _ from ?_)
  refine P_gw_op (L' := [.ref G, P_un, P_un]) (st' := [.ref G, P_z 1]) P_i186_12 rfl (show P_gw _ _ 13 [.ref G, P_un, P_un] [.ref G, P_z 1] _ _ _ _ _ _ _ from ?_)
  refine P_gw_op (L' := [.ref G, P_un, P_un]) (st' := [P_z 3, .ref G, P_z 1]) P_i186_13 rfl (show P_gw _ _ 14 [.ref G, P_un, P_un] [P_z 3, .ref G, P_z 1] _ _ _ _ _ _ _ from ?_)
  refine P_gw_call P_i186_14 rfl rfl (fun _ => rfl) rfl rfl rfl rfl (y2 := 182) (as := [.ref G, P_z 3]) (r0 := [P_z 1]) (P_ginv_v (hT.1.1) rfl rfl) (Nat.le_of_ble_eq_true rfl) (by decide) rfl (Nat.le_of_ble_eq_true rfl) (s_draw (hT.1.1) (hs1) (hdr2) (by omega) (by omega) (fun v1 hv1a hv1b => ?_))
  show P_gw _ _ 17 [.ref G, P_un, P_un] [P_z v1, P_z 1] _ _ _ _ _ _ _
  refine P_gw_op (L' := [.ref G, P_un, P_un]) (st' := [P_z (1 + v1)]) P_i186_17 P_o_iadd (show P_gw _ _ 18 [.ref G, P_un, P_un] [P_z (1 + v1)] _ _ _ _ _ _ _ from ?_)
  refine P_gw_op (L' := [.ref G, P_z (1 + v1), P_un]) (st' := []) P_i186_18 rfl (show P_gw _ _ 19 [.ref G, P_z (1 + v1), P_un] [] _ _ _ _ _ _ _ from ?_)
  refine P_gw_op (L' := [.ref G, P_z (1 + v1), P_un]) (st' := [.ref G]) P_i186_19 rfl (show P_gw _ _ 20 [.ref G, P_z (1 + v1), P_un] [.ref G] _ _ _ _ _ _ _ from ?_)
  refine P_gw_op (L' := [.ref G, P_z (1 + v1), P_un]) (st' := [.ref G, .ref G]) P_i186_20 rfl (show P_gw _ _ 21 [.ref G, P_z (1 + v1), P_un] [.ref G, .ref G] _ _ _ _ _ _ _ from ?_)
  refine P_gw_getR (P_i186_21) (hT.1.1) rfl rfl ((P_u2_ne (by omega)).trans (hL.1.2)) (show P_gw _ _ 24 [.ref G, P_z (1 + v1), P_un] [.ref L, .ref G] _ _ _ _ _ _ _ from ?_)
  refine P_gw_op (L' := [.ref G, P_z (1 + v1), P_un]) (st' := [P_z (1 + v1), .ref L, .ref G]) P_i186_24 rfl (show P_gw _ _ 25 [.ref G, P_z (1 + v1), P_un] [P_z (1 + v1), .ref L, .ref G] _ _ _ _ _ _ _ from ?_)
  have hlL := (hlt _ _ _ hL.2.1).2
  have hGL : L ≠ G := fun e => by have h := hL.2.1; rw [e] at h; cases h.symm.trans hT.1.1
  refine P_gw_call P_i186_25 rfl rfl (fun _ => rfl) rfl rfl rfl rfl (y2 := 183) (as := [.ref L, P_z (1 + v1)]) (r0 := [.ref G]) (fun _ _ => rfl) (Nat.le_of_ble_eq_true rfl) (by decide) rfl (Nat.le_of_ble_eq_true rfl) (s_plus 10 hL.2.1 (by omega) (fun g' τ' u' hx hN h1 h2 hu => ?_))
  show P_gw _ _ 28 [.ref G, P_z (1 + v1), P_un] [.ref N, .ref G] _ _ _ _ _ _ _
  refine P_gw_putR (b := N) P_i186_28 (((hx G (by omega)).1).trans (hT.1.1)) rfl rfl (fun _ => rfl) (show P_gw _ _ 31 [.ref G, P_z (1 + v1), P_un] [] _ _ _ _ _ _ _ from ?_)
  have hf : G_fr G_0 G_24 g τ g' (P_u2 τ' G 4 (N : Int)) := G_fr_tr (G_fr_f hT.1.1 (Or.inl rfl)) (G_fr_tr (G_fr_xt hlt hx) (G_fr_f ((hx G (by omega)).1.trans hT.1.1) (Or.inr rfl)))
  obtain ⟨c, hc⟩ : ∃ c : Nat, (c : Int) = (1 + v1) := ⟨((1 + v1)).toNat, by omega⟩
  have hL := G_L_add (P_gL_fr (R := G_0) (F := G_2) (G_fr_f hT.1.1 rfl) ⟨id, id⟩ (by unfold G_2; omega) hL) (by omega) hx hN h1 h2 hc.symm (by omega)
  have hT := P_gT_fr hf (fun _ _ _ => id) (by unfold G_24; omega) hT
  have hK := P_gK_fr hf id (by unfold G_24; omega) hK
  have hq := G_oq_fr hf (fun _ _ _ => id) hq
  have h0 := ((hf _ _ _ hG0).2 0 (fun _ => by unfold G_24; omega) id).trans h0
  have hs1 := ((hf _ _ _ hG0).2 1 (fun _ => by unfold G_24; omega) id).trans hs1
  obtain ⟨dr, hdq⟩ : ∃ x, x = dr + 1 := ⟨_, rfl⟩
  have hdr2 : (P_u2 τ' G 4 (N : Int)) G 2 = dr := (P_u2_ne (by omega)).trans (((hx G (by omega)).2 _).trans (P_u2_at.trans hdq.symm))
  obtain ⟨L, hLq⟩ : ∃ x, x = N := ⟨_, rfl⟩
  refine P_gw_re (Pr := fun g' τ' N' u' => P_gT g' τ' G T nt tt (fun _ => 0) (fun _ _ => 0) cT (fun _ _ _ => 0) ∧ P_gL g' τ' G L (nt + 1) (G_c1 cT nt c) ∧ P_gK g' τ' G K 0 ∧ G_oq g' τ' A nt bt cT ∧ τ' G 0 = ((A : Nat) : Int) ∧ τ' G 1 = ((0 : Nat) : Int) ∧ τ' G 2 = dr ∧ u' ≤ u + 10) ⟨hT, hLq ▸ hL, hK, hq, h0, hs1, hdr2, by omega⟩ (fun g τ N u hre => ?_)
  obtain ⟨hT, hL, hK, hq, h0, hs1, hdr2, hub⟩ := hre
  refine P_gw_lts (fun hlt => ?_)
  have hlG := hlt _ _ _ hT.1.1
  have hG0 := hT.1.1
  refine P_gw_op (L' := [.ref G, P_z (1 + v1), P_un]) (st' := [.ref G]) P_i186_31 rfl (show P_gw _ _ 32 [.ref G, P_z (1 + v1), P_un] [.ref G] _ _ _ _ _ _ _ from ?_)
  refine P_gw_getR (P_i186_32) (hT.1.1) rfl rfl (hT.1.2) (show P_gw _ _ 35 [.ref G, P_z (1 + v1), P_un] [.ref T] _ _ _ _ _ _ _ from ?_)
  refine P_gw_rlen P_i186_35 (hT.2.1) (show P_gw _ _ 36 [.ref G, P_z (1 + v1), P_un] [P_z ((nt : Nat) : Int)] _ _ _ _ _ _ _ from ?_)
  refine P_gw_op (L' := [.ref G, P_z (1 + v1), P_un]) (st' := [P_z 1, P_z ((nt : Nat) : Int)]) P_i186_36 rfl (show P_gw _ _ 37 [.ref G, P_z (1 + v1), P_un] [P_z 1, P_z ((nt : Nat) : Int)] _ _ _ _ _ _ _ from ?_)
  refine P_gw_op (L' := [.ref G, P_z (1 + v1), P_un]) (st' := [P_z (((nt : Nat) : Int) + 1)]) P_i186_37 P_o_iadd (show P_gw _ _ 38 [.ref G, P_z (1 + v1), P_un] [P_z (((nt : Nat) : Int) + 1)] _ _ _ _ _ _ _ from ?_)
  refine P_gw_op (L' := [.ref G, P_z (1 + v1), P_un]) (st' := [P_z 0, P_z (((nt : Nat) : Int) + 1)]) P_i186_38 rfl (show P_gw _ _ 39 [.ref G, P_z (1 + v1), P_un] [P_z 0, P_z (((nt : Nat) : Int) + 1)] _ _ _ _ _ _ _ from ?_)
  refine P_gw_mna 2 3 P_i186_39 (by omega) (by omega) (show P_gw _ _ 43 [.ref G, P_z (1 + v1), P_un] [.ref N] _ _ _ _ _ _ _ from ?_)
  have hnn : (((nt : Nat) : Int) + 1).toNat = nt + 1 := by omega
  rw [hnn]
  have hX : P_xt N g τ (P_gM g N 2 3 (nt + 1)) (P_tM τ N (nt + 1)) := fun x hx => ⟨P_gM_ne hx, fun j => P_tM_ne hx⟩
  have hf : G_fr G_0 G_0 g τ (P_gM g N 2 3 (nt + 1)) (P_tM τ N (nt + 1)) := G_fr_xt hlt hX
  have hTN := (hlt _ _ _ hT.2.1).2
  have hT := P_gT_fr hf (fun _ _ _ => id) id hT
  have hL := P_gL_fr hf ⟨id, id⟩ id hL
  have hK := P_gK_fr hf id id hK
  have hq := G_oq_fr hf (fun _ _ _ => id) hq
  have h0 := ((hf _ _ _ hG0).2 0 (fun _ => id) id).trans h0
  have hs1 := ((hf _ _ _ hG0).2 1 (fun _ => id) id).trans hs1
  have hdr2 := ((hf _ _ _ hG0).2 2 (fun _ => id) id).trans hdr2
  refine P_gw_rr (L := fun r0 => [.ref G, P_z (1 + v1), P_un]) (st := fun r0 => [.ref r0]) (Pr := fun g' τ' N' u' r0 => P_gT g' τ' G T nt tt (fun _ => 0) (fun _ _ => 0) cT (fun _ _ _ => 0) ∧ P_gL g' τ' G L (nt + 1) (G_c1 cT nt c) ∧ P_gK g' τ' G K 0 ∧ G_oq g' τ' A nt bt cT ∧ τ' G 0 = ((A : Nat) : Int) ∧ τ' G 1 = ((0 : Nat) : Int) ∧ τ' G 2 = dr ∧ g' r0 = some (2, .inr (.inr (201, nt + 1))) ∧ r0 ≠ T ∧ τ' r0 nt = ((r0 + 1 + nt : Nat) : Int) ∧ g' (r0 + 1 + nt) = some (3, .inr (.inr (200, 0))) ∧ u' ≤ u + 10) N ⟨hT, hL, hK, hq, h0, hs1, hdr2, P_gM_at, by omega, P_tM_at (by omega), P_gM_in (by omega), by omega⟩ (fun g τ N u r0 hre => ?_)
  obtain ⟨hT, hL, hK, hq, h0, hs1, hdr2, hr, hrT, hri, hrg, hub⟩ := hre
  show P_gw _ _ 43 [.ref G, P_z (1 + v1), P_un] [.ref r0] _ _ _ _ _ _ _
  refine P_gw_lts (fun hlt => ?_)
  have hlG := hlt _ _ _ hT.1.1
  have hG0 := hT.1.1
  refine P_gw_op (L' := [.ref G, P_z (1 + v1), .ref r0]) (st' := []) P_i186_43 rfl (show P_gw _ _ 44 [.ref G, P_z (1 + v1), .ref r0] [] _ _ _ _ _ _ _ from ?_)
  refine P_gw_op (L' := [.ref G, P_z (1 + v1), .ref r0]) (st' := [.ref G]) P_i186_44 rfl (show P_gw _ _ 45 [.ref G, P_z (1 + v1), .ref r0] [.ref G] _ _ _ _ _ _ _ from ?_)
  refine P_gw_getR (P_i186_45) (hT.1.1) rfl rfl (hT.1.2) (show P_gw _ _ 48 [.ref G, P_z (1 + v1), .ref r0] [.ref T] _ _ _ _ _ _ _ from ?_)
  refine P_gw_op (L' := [.ref G, P_z (1 + v1), .ref r0]) (st' := [P_z 0, .ref T]) P_i186_48 rfl (show P_gw _ _ 49 [.ref G, P_z (1 + v1), .ref r0] [P_z 0, .ref T] _ _ _ _ _ _ _ from ?_)
  refine P_gw_op (L' := [.ref G, P_z (1 + v1), .ref r0]) (st' := [.ref r0, P_z 0, .ref T]) P_i186_49 rfl (show P_gw _ _ 50 [.ref G, P_z (1 + v1), .ref r0] [.ref r0, P_z 0, .ref T] _ _ _ _ _ _ _ from ?_)
  refine P_gw_op (L' := [.ref G, P_z (1 + v1), .ref r0]) (st' := [P_z 0, .ref r0, P_z 0, .ref T]) P_i186_50 rfl (show P_gw _ _ 51 [.ref G, P_z (1 + v1), .ref r0] [P_z 0, .ref r0, P_z 0, .ref T] _ _ _ _ _ _ _ from ?_)
  refine P_gw_op (L' := [.ref G, P_z (1 + v1), .ref r0]) (st' := [.ref G, P_z 0, .ref r0, P_z 0, .ref T]) P_i186_51 rfl (show P_gw _ _ 52 [.ref G, P_z (1 + v1), .ref r0] [.ref G, P_z 0, .ref r0, P_z 0, .ref T] _ _ _ _ _ _ _ from ?_)
  refine P_gw_getR (P_i186_52) (hT.1.1) rfl rfl (hT.1.2) (show P_gw _ _ 55 [.ref G, P_z (1 + v1), .ref r0] [.ref T, P_z 0, .ref r0, P_z 0, .ref T] _ _ _ _ _ _ _ from ?_)
  refine P_gw_rlen P_i186_55 (hT.2.1) (show P_gw _ _ 56 [.ref G, P_z (1 + v1), .ref r0] [P_z ((nt : Nat) : Int), P_z 0, .ref r0, P_z 0, .ref T] _ _ _ _ _ _ _ from ?_)
  refine P_gw_cpr (ty := 201) P_i186_56 (hr) (hT.2.1) (by decide) (by omega) (by omega) (by omega) (by omega) (by omega) ⟨by omega, by omega⟩ (Nat.le_of_ble_eq_true rfl) (fun j hj => ⟨tt (j : Int), 3, _, by have h := (hT.2.2.2 (j : Int) (by omega) (by omega)).1.1; rw [Int.toNat_natCast] at h; rw [← h]; congr 1; simp, (hT.2.2.2 (j : Int) (by omega) (by omega)).1.2.1, rfl⟩) (show P_gw _ _ 59 [.ref G, P_z (1 + v1), .ref r0] [] _ _ _ _ _ _ _ from ?_)
  refine P_gw_op (L' := [.ref G, P_z (1 + v1), .ref r0]) (st' := [.ref G]) P_i186_59 rfl (show P_gw _ _ 60 [.ref G, P_z (1 + v1), .ref r0] [.ref G] _ _ _ _ _ _ _ from ?_)
  refine P_gw_op (L' := [.ref G, P_z (1 + v1), .ref r0]) (st' := [.ref r0, .ref G]) P_i186_60 rfl (show P_gw _ _ 61 [.ref G, P_z (1 + v1), .ref r0] [.ref r0, .ref G] _ _ _ _ _ _ _ from ?_)
  refine P_gw_putR (b := r0) P_i186_61 (hT.1.1) rfl rfl (fun _ => rfl) (show P_gw _ _ 64 [.ref G, P_z (1 + v1), .ref r0] [] _ _ _ _ _ _ _ from ?_)
  have hrG : r0 ≠ G := fun e => by rw [e] at hr; cases hr.symm.trans hT.1.1
  have hT2 := G_T_more (c := c) hT (by omega) (by omega) hr hrT hri hrg
  have hf : G_fr G_R2 G_3f g τ g (P_u2 (P_tN τ r0 (P_cps (τ T) (τ r0) 0 0 ((nt : Nat) : Int))) G 3 ((r0 : Nat) : Int)) := fun x r sh e => ⟨e, fun j a b => (P_u2_ne (fun q => by obtain ⟨rfl, rfl⟩ := q; cases hT.1.1.symm.trans e; exact a rfl rfl)).trans (P_tN_ne (fun q => by subst q; cases hr.symm.trans e; exact b rfl))⟩
  have hT := hT2
  have hL := P_gL_fr hf ⟨by unfold G_R2; omega, by unfold G_R2; omega⟩ (by unfold G_3f; omega) hL
  have hK := P_gK_fr hf (by unfold G_R2; omega) (by unfold G_3f; omega) hK
  have hq := G_oq_fr hf (fun r a b => by unfold G_R2; omega) hq
  have h0 := ((hf _ _ _ hG0).2 0 (fun _ => by unfold G_3f; omega) (by unfold G_R2; omega)).trans h0
  have hs1 := ((hf _ _ _ hG0).2 1 (fun _ => by unfold G_3f; omega) (by unfold G_R2; omega)).trans hs1
  have hdr2 := ((hf _ _ _ hG0).2 2 (fun _ => by unfold G_3f; omega) (by unfold G_R2; omega)).trans hdr2
  obtain ⟨T, hTq⟩ : ∃ x, x = r0 := ⟨_, rfl⟩
  obtain ⟨tt, htq⟩ : ∃ x : Int → Nat, x = (fun s => if s = (nt : Int) then r0 + 1 + nt else tt s) := ⟨_, rfl⟩
  rw [← htq] at hT
  refine P_gw_re (Pr := fun g' τ' N' u' => P_gT g' τ' G T (nt + 1) tt (fun _ => 0) (fun _ _ => 0) (G_c1 cT nt c) (fun _ _ _ => 0) ∧ P_gL g' τ' G L (nt + 1) (G_c1 cT nt c) ∧ P_gK g' τ' G K 0 ∧ G_oq g' τ' A nt bt cT ∧ τ' G 0 = ((A : Nat) : Int) ∧ τ' G 1 = ((0 : Nat) : Int) ∧ τ' G 2 = dr ∧ u' ≤ u) ⟨hTq ▸ hT, hL, hK, hq, h0, hs1, hdr2, by omega⟩ (fun g τ N u hre => ?_)
  obtain ⟨hT, hL, hK, hq, h0, hs1, hdr2, hub⟩ := hre
  refine P_gw_lts (fun hlt => ?_)
  have hlG := hlt _ _ _ hT.1.1
  have hG0 := hT.1.1
  refine P_gw_op (L' := [.ref G, P_z (1 + v1), .ref r0]) (st' := [.ref G]) P_i186_64 rfl (show P_gw _ _ 65 [.ref G, P_z (1 + v1), .ref r0] [.ref G] _ _ _ _ _ _ _ from ?_)
  refine P_gw_getR (P_i186_65) (hT.1.1) rfl rfl (h0) (show P_gw _ _ 68 [.ref G, P_z (1 + v1), .ref r0] [.ref A] _ _ _ _ _ _ _ from ?_)
  refine P_gw_op (L' := [.ref G, P_z (1 + v1), .ref r0]) (st' := [P_z (1 + v1), .ref A]) P_i186_68 rfl (show P_gw _ _ 69 [.ref G, P_z (1 + v1), .ref r0] [P_z (1 + v1), .ref A] _ _ _ _ _ _ _ from ?_)
  refine P_gw_call P_i186_69 rfl rfl (fun _ => rfl) rfl rfl rfl rfl (y2 := 138) (as := [.ref A, P_z (1 + v1)]) (r0 := []) (P_ginv_v (hq.1.1) rfl rfl) (Nat.le_of_ble_eq_true rfl) (by decide) rfl (Nat.le_of_ble_eq_true rfl) (g_oqt hq (by omega) (by omega) (fun g' τ' u' hf hq2 hu => ?_))
  have hc2 : ((1 + v1)).toNat = c := by omega
  rw [hc2] at hq2
  have hT := P_gT_fr hf (fun r a b => by unfold G_R212; omega) id hT
  have hL := P_gL_fr hf ⟨by unfold G_R212; omega, by unfold G_R212; omega⟩ id hL
  have hK := P_gK_fr hf (by unfold G_R212; omega) id hK
  have h0 := ((hf _ _ _ hG0).2 0 (fun _ => id) (by unfold G_R212; omega)).trans h0
  have hs1 := ((hf _ _ _ hG0).2 1 (fun _ => id) (by unfold G_R212; omega)).trans hs1
  have hdr2 := ((hf _ _ _ hG0).2 2 (fun _ => id) (by unfold G_R212; omega)).trans hdr2
  show P_gw _ _ 72 [.ref G, P_z (1 + v1), .ref r0] [P_z ((nt : Nat) : Int)] _ _ _ _ _ _ _
  refine P_gw_op (L' := [.ref G, P_z (1 + v1), .ref r0]) (st' := [.ref G, P_z ((nt : Nat) : Int)]) P_i186_72 rfl (show P_gw _ _ 73 [.ref G, P_z (1 + v1), .ref r0] [.ref G, P_z ((nt : Nat) : Int)] _ _ _ _ _ _ _ from ?_)
  refine P_gw_getR (P_i186_73) (hT.1.1) rfl rfl (hT.1.2) (show P_gw _ _ 76 [.ref G, P_z (1 + v1), .ref r0] [.ref T, P_z ((nt : Nat) : Int)] _ _ _ _ _ _ _ from ?_)
  refine P_gw_rlen P_i186_76 (hT.2.1) (show P_gw _ _ 77 [.ref G, P_z (1 + v1), .ref r0] [P_z ((nt + 1 : Nat) : Int), P_z ((nt : Nat) : Int)] _ _ _ _ _ _ _ from ?_)
  refine P_gw_op (L' := [.ref G, P_z (1 + v1), .ref r0]) (st' := [P_z 1, P_z ((nt + 1 : Nat) : Int), P_z ((nt : Nat) : Int)]) P_i186_77 rfl (show P_gw _ _ 78 [.ref G, P_z (1 + v1), .ref r0] [P_z 1, P_z ((nt + 1 : Nat) : Int), P_z ((nt : Nat) : Int)] _ _ _ _ _ _ _ from ?_)
  refine P_gw_op (L' := [.ref G, P_z (1 + v1), .ref r0]) (st' := [P_z (((nt + 1 : Nat) : Int) - 1), P_z ((nt : Nat) : Int)]) P_i186_78 P_o_isub (show P_gw _ _ 79 [.ref G, P_z (1 + v1), .ref r0] [P_z (((nt + 1 : Nat) : Int) - 1), P_z ((nt : Nat) : Int)] _ _ _ _ _ _ _ from ?_)
  refine P_gw_icf P_i186_79 ⟨by omega, by omega⟩ ⟨by omega, by omega⟩ (P_ci_nef (by omega)) (show P_gw _ _ 82 [.ref G, P_z (1 + v1), .ref r0] [] _ _ _ _ _ _ _ from ?_)
  refine P_gw_op (L' := [.ref G, P_z (1 + v1), .ref r0]) (st' := [P_z 1]) P_i186_82 rfl (show P_gw _ _ 83 [.ref G, P_z (1 + v1), .ref r0] [P_z 1] _ _ _ _ _ _ _ from ?_)
  refine P_gw_goto P_i186_83 (show P_gw _ _ 87 [.ref G, P_z (1 + v1), .ref r0] [P_z 1] _ _ _ _ _ _ _ from ?_)
  refine P_gw_end P_i186_87 rfl rfl (fun _ => rfl) rfl ?_
  exact q _ _ _ _ _ _ _ _ _ dr ⟨hT, hL, hK, hq2, h0, hs1, hdr2⟩ (by omega) (by omega) (by omega)
