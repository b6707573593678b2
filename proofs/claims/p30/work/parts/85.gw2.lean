/-! THE LAW'S CELLS: copying, rows of rows; numbers of which nothing is known -/
section GW2
variable {d y pc : Nat} {rt : Option FieldType} {hs : List (Nat × Nat × Nat × Nat × Nat)} {nx : Nat} {r1 : Int} {r2 : Nat} {kN kT : List Nat} {L L' st st' : List Value} {w : P_Lw} {σ : P_A} {g : P_Gl} {τ : P_A} {N u : Nat} {Q : P_GQ}
theorem P_gw_u {u' : Nat} (hu : u ≤ u') (k : P_gw d y pc L st w σ g τ N u' Q) : P_gw d y pc L st w σ g τ N u Q := fun h hk => k h ⟨hk.1, hk.2.1, hk.2.2.1, ⟨Nat.le_trans hk.2.2.2.1.1 hu, Nat.le_trans hk.2.2.2.1.2 hu⟩, hk.2.2.2.2⟩
theorem P_gw_lt {a r : Nat} {sh : P_Sg} (ha : g a = some (r, sh)) (k : 2 ≤ a → a < N → P_gw d y pc L st w σ g τ N u Q) : P_gw d y pc L st w σ g τ N u Q := fun h hk => k (P_Gk_lt hk ha).1 (P_Gk_lt hk ha).2 h hk
theorem P_gw_N2 (k : 2 ≤ N → P_gw d y pc L st w σ g τ N u Q) : P_gw d y pc L st w σ g τ N u Q := fun h hk => k (P_Gk_N2 hk) h hk
theorem P_gw_apart {a b r r' : Nat} {sh sh' : P_Sg} (ha : g a = some (r, sh)) (hb : g b = some (r', sh')) (h : r ≠ r') : a ≠ b := by
  intro e
  subst e
  cases ha.symm.trans hb
  exact h rfl
theorem P_Gk_row {h : P_H} {a r : Nat} {sh : P_Sg} {s : Nat → Int} (hk : P_Gk w σ g τ N u h) (ha : g a = some (r, sh)) : P_Gk w σ g (P_tN τ a s) N u (P_set h a (P_gcl sh s)) := by
  obtain ⟨k1, k2, k3, k4, Ls, xs, k5, k6⟩ := hk
  obtain ⟨a1, a2, a3⟩ := k2 a r sh ha
  have hlt : a < h.1.length := (List.getElem?_eq_some_iff.mp a2).1
  refine ⟨⟨fun k hl => ?_, k1.2.1, ?_⟩, fun b rb shb hb => ?_, ?_, k4, Ls, xs, k5, ?_⟩
  · obtain ⟨b1, b2⟩ := k1.1 k hl
    refine ⟨b1, ?_⟩
    simp only [P_set, List.getElem?_set]
    rw [if_neg (fun q => a3 k hl q.symm)]
    exact b2
  · simp only [P_set, List.getElem?_set]
    rw [if_neg (by omega)]
    exact k1.2.2
  · obtain ⟨b1, b2, b3⟩ := k2 b rb shb hb
    refine ⟨b1, ?_, b3⟩
    simp only [P_set, List.getElem?_set]
    by_cases e : a = b
    · subst e
      cases ha.symm.trans hb
      rw [if_pos rfl, if_pos hlt]
      unfold P_tN
      rw [if_pos rfl]
    · rw [if_neg e, b2]
      unfold P_tN
      rw [if_neg (fun q => e q.symm)]
  · simp only [P_set, List.length_set]; exact k3
  · simp only [P_set, List.getElem?_set]
    rw [if_neg (by omega)]
    exact k6
theorem P_ncl {i : Int} (h0 : 0 ≤ i) (h1 : i ≤ 65536) : (Int32.ofInt i).toNatClampNeg = i.toNat ∧ ¬ Int32.ofInt i < 0 := by
  refine ⟨Int32.toNatClampNeg_ofInt_of_le (by omega) (by omega), ?_⟩
  rw [Int32.lt_iff_toInt_lt, P_toInt ⟨by omega, by omega⟩]
  have : (0 : Int32).toInt = 0 := by decide
  omega
/-- what a copy leaves in a row -/
def P_cps (f g : Nat → Int) (sp dp n : Int) : Nat → Int := fun j => if dp.toNat ≤ j ∧ j < dp.toNat + n.toNat then f (sp.toNat + (j - dp.toNat)) else g j
section CP
variable {a b r rb n0 n1 : Nat} {sp dp n : Int} {idx : Nat}
theorem P_gw_cpi (hi : P_in P_Y0 y pc rt hs (.invokestatic idx) nx r1 9003 kN kT) (ha : g a = some (r, .inr (.inl n1))) (hb : g b = some (rb, .inr (.inl n0))) (h1 : 0 ≤ sp) (h2 : 0 ≤ dp) (h3 : 0 ≤ n) (h4 : sp + n ≤ n0) (h5 : dp + n ≤ n1) (h6 : n0 ≤ 65536 ∧ n1 ≤ 65536) (hcs : P_cs st ≤ 8) (kk : P_gw d y nx (P_kill L kN) st w σ g (P_tN τ a (P_cps (τ b) (τ a) sp dp n)) N u Q) : P_gw d y pc L (P_z n :: P_z dp :: .ref a :: P_z sp :: .ref b :: st) w σ g τ N u Q := by
  obtain ⟨c1, c1'⟩ := P_ncl h1 (by omega)
  obtain ⟨c2, c2'⟩ := P_ncl h2 (by omega)
  obtain ⟨c3, c3'⟩ := P_ncl h3 (by omega)
  refine P_gw_hp hi rfl rfl (fun h hk => ?_) kk
  obtain ⟨g1, g2, -⟩ := hk.2.1 a r _ ha
  obtain ⟨g3, g4, -⟩ := hk.2.1 b rb _ hb
  refine ⟨_, ?_, P_Gk_row hk ha⟩
  simp only [P_hp]
  rw [if_pos trivial]
  simp only [g2, g4, P_gcl, c1, c2, c3]
  rw [if_pos ⟨g1, g3, trivial, hcs, c1', c2', c3', by omega, by omega⟩]
  simp only [P_cpy, if_true, Option.bind_some]
  have : va_cpy (fun j => Int32.ofInt (τ b j)) (fun j => Int32.ofInt (τ a j)) sp.toNat dp.toNat n.toNat = fun j => Int32.ofInt (P_cps (τ b) (τ a) sp dp n j) := by
    funext j
    unfold va_cpy P_cps
    split <;> rfl
  rw [this]
theorem P_gw_cpr {ty : Nat} (hi : P_in P_Y0 y pc rt hs (.invokestatic idx) nx r1 9003 kN kT) (ha : g a = some (r, .inr (.inr (ty, n1)))) (hb : g b = some (rb, .inr (.inr (ty, n0)))) (hty : ty = 200 ∨ ty = 201) (h1 : 0 ≤ sp) (h2 : 0 ≤ dp) (h3 : 0 ≤ n) (h4 : sp + n ≤ n0) (h5 : dp + n ≤ n1) (h6 : n0 ≤ 65536 ∧ n1 ≤ 65536) (hcs : P_cs st ≤ 8) (hel : ∀ j : Nat, (j : Int) < n → ∃ x rx sx, τ b (sp.toNat + j) = ((x : Nat) : Int) ∧ g x = some (rx, sx) ∧ P_up (P_gkd sx) = ty) (kk : P_gw d y nx (P_kill L kN) st w σ g (P_tN τ a (P_cps (τ b) (τ a) sp dp n)) N u Q) : P_gw d y pc L (P_z n :: P_z dp :: .ref a :: P_z sp :: .ref b :: st) w σ g τ N u Q := by
  obtain ⟨c1, c1'⟩ := P_ncl h1 (by omega)
  obtain ⟨c2, c2'⟩ := P_ncl h2 (by omega)
  obtain ⟨c3, c3'⟩ := P_ncl h3 (by omega)
  refine P_gw_hp hi rfl rfl (fun h hk => ?_) kk
  obtain ⟨g1, g2, -⟩ := hk.2.1 a r _ ha
  obtain ⟨g3, g4, -⟩ := hk.2.1 b rb _ hb
  refine ⟨_, ?_, P_Gk_row hk ha⟩
  have hall : P_elk P_Y0.2.1 h.1 ty (fun j => P_rfo (τ b j)) sp.toNat n.toNat = true := by
    unfold P_elk
    rw [List.all_eq_true]
    intro i hi
    have hi2 := List.mem_range.mp hi
    obtain ⟨x, rx, sx, e1, e2, e3⟩ := hel i (by omega)
    obtain ⟨q1, q2, -⟩ := hk.2.1 x rx sx e2
    obtain ⟨m, f, e4⟩ := P_gcl_k (sh := sx) (s := τ x) (fun q => by rw [q] at e3; unfold P_up at e3; simp at e3; omega)
    rw [e4] at q2
    simp only [P_rfo, e1]
    rw [if_neg (by omega), Int.toNat_natCast]
    simp only [q2, Bool.and_eq_true, decide_eq_true_eq]
    exact ⟨q1, e3⟩
  simp only [P_hp]
  rw [if_pos trivial]
  simp only [g2, g4, P_gcl, c1, c2, c3]
  rw [if_pos ⟨g1, g3, trivial, hcs, c1', c2', c3', by omega, by omega⟩]
  simp only [P_cpy]
  rw [if_pos ⟨hty, hall⟩]
  simp only [Option.bind_some]
  have : va_cpy (fun j => P_rfo (τ b j)) (fun j => P_rfo (τ a j)) sp.toNat dp.toNat n.toNat = fun j => P_rfo (P_cps (τ b) (τ a) sp dp n j) := by
    funext j
    unfold va_cpy P_cps
    split <;> rfl
  rw [this]
end CP
/-- rows of empty rows -/
def P_gM (g : P_Gl) (N ro ri n : Nat) : P_Gl := fun a => if a = N then some (ro, .inr (.inr (201, n))) else if N < a ∧ a ≤ N + n then some (ri, .inr (.inr (200, 0))) else g a
def P_tM (τ : P_A) (N n : Nat) : P_A := fun a j => if a = N then (if j < n then ((N + 1 + j : Nat) : Int) else -1) else if N < a ∧ a ≤ N + n then -1 else τ a j
set_option maxHeartbeats 1000000 in
theorem P_Gk_mna {h : P_H} {ro ri n : Nat} (hk : P_Gk w σ g τ N u h) : P_Gk w σ (P_gM g N ro ri n) (P_tM τ N n) (N + 1 + n) (u + 1 + n) (P_mna h n) := by
  have hN2 := P_Gk_N2 hk
  have hlt := fun a r sh => P_Gk_lt (a := a) (r := r) (sh := sh) hk
  obtain ⟨k1, k2, k3, k4, Ls, xs, k5, k6⟩ := hk
  have hold : ∀ a, a < N → (P_mna h n).1[a]? = h.1[a]? := fun a ha => by unfold P_mna; simp only; rw [List.getElem?_append_left (by omega)]
  refine ⟨⟨fun k hl => ?_, k1.2.1, (hold 1 (by omega)).trans k1.2.2⟩, fun b rb shb hb => ?_, by simp [P_mna]; omega, ⟨by simp only [P_mna]; omega, by simp only [P_mna]; omega⟩, Ls, xs, k5, (hold 0 (by omega)).trans k6⟩
  · obtain ⟨b1, b2⟩ := k1.1 k hl
    have := (List.getElem?_eq_some_iff.mp b2).1
    exact ⟨b1, (hold _ (by omega)).trans b2⟩
  · have hcls : ∀ k, w.2.1 k = true → w.2.2 k < N := fun k hl => by
      have := (List.getElem?_eq_some_iff.mp (k1.1 k hl).2).1
      omega
    unfold P_gM at hb
    by_cases e1 : b = N
    · rw [if_pos e1] at hb
      cases hb
      refine ⟨by omega, ?_, fun k hl => by have := hcls k hl; omega⟩
      unfold P_mna
      simp only
      rw [e1, ← k3, List.getElem?_append_right (Nat.le_refl _), Nat.sub_self]
      have : (fun j => P_rfo (P_tM τ h.1.length n h.1.length j)) = fun j => if j < n then some (h.1.length + 1 + j) else none := by
        funext j
        unfold P_tM P_rfo
        rw [if_pos rfl]
        split
        · rw [if_neg (by omega), Int.toNat_natCast]
        · rw [if_pos (by omega)]
      simp only [P_gcl, this]
      rfl
    · rw [if_neg e1] at hb
      by_cases e2 : N < b ∧ b ≤ N + n
      · rw [if_pos e2] at hb
        cases hb
        refine ⟨by omega, ?_, fun k hl => by have := hcls k hl; omega⟩
        unfold P_mna
        simp only
        rw [List.getElem?_append_right (by omega), show b - h.1.length = (b - h.1.length - 1) + 1 by omega, List.getElem?_cons_succ, List.getElem?_replicate, if_pos (by omega)]
        have : (fun j => P_rfo (P_tM τ N n b j)) = fun _ => none := by
          funext j
          unfold P_tM P_rfo
          rw [if_neg e1, if_pos e2, if_pos (by omega)]
        simp only [P_gcl, this]
      · rw [if_neg e2] at hb
        obtain ⟨b1, b2, b3⟩ := k2 b rb shb hb
        refine ⟨b1, (hold b (hlt b rb shb hb).2).trans ?_, b3⟩
        rw [b2]
        have : P_tM τ N n b = τ b := by
          funext j
          unfold P_tM
          rw [if_neg e1, if_neg e2]
        rw [this]
theorem P_gw_mna (ro ri : Nat) {idx dd : Nat} {i : Int} (hi : P_in P_Y0 y pc rt hs (.multianewarray idx dd) nx r1 201 kN kT) (h0 : 0 ≤ i) (h1 : i ≤ 65536) (kk : P_gw d y nx (P_kill L kN) (.ref N :: st) w σ (P_gM g N ro ri i.toNat) (P_tM τ N i.toNat) (N + 1 + i.toNat) (u + 1 + i.toNat) Q) : P_gw d y pc L (P_z 0 :: P_z i :: st) w σ g τ N u Q := by
  obtain ⟨c1, c2⟩ := P_ncl h0 h1
  refine P_gw_hp hi rfl rfl (fun h hk => ⟨P_mna h i.toNat, ?_, P_Gk_mna hk⟩) kk
  simp only [P_hp]
  rw [if_pos trivial]
  simp only [c1]
  rw [if_pos ⟨rfl, by rintro (q | q); exact c2 q; omega⟩, hk.2.2.1]
/-- an int, as a whole number -/
theorem P_zI (x : Int32) : (.int x : Value) = P_z x.toInt := by unfold P_z; rw [Int32.ofInt_toInt]
theorem P_rgI (x : Int32) : P_rg x.toInt := ⟨by have := Int32.le_toInt x; omega, by have := Int32.toInt_lt x; omega⟩
theorem P_o_shr {a b : Int} : ∃ v, P_rg v ∧ P_op .ishr r1 r2 L (P_z b :: P_z a :: st) = some (L, P_z v :: st) := ⟨_, P_rgI (Int32.ofInt a >>> (Int32.ofInt b &&& 31)), by simp only [P_op, P_ii, P_z, Int32.ofInt_toInt]⟩
theorem P_o_msk {a : Int} : ∃ v, (0 ≤ v ∧ v ≤ 2147483647) ∧ P_op .iand r1 r2 L (P_z 2147483647 :: P_z a :: st) = some (L, P_z v :: st) := by
  refine ⟨(Int32.ofInt a &&& Int32.ofInt 2147483647).toInt, ?_, by simp only [P_op, P_ii, P_z, Int32.ofInt_toInt]⟩
  have hr := P_rgI (Int32.ofInt a &&& Int32.ofInt 2147483647)
  refine ⟨?_, hr.2⟩
  have h : ∀ x : BitVec 32, 0 ≤ (x &&& 2147483647#32).toInt := by
    intro x
    have h1 : (x &&& 2147483647#32).msb = false := by
      rw [BitVec.msb_and]
      have : (2147483647#32).msb = false := by decide
      rw [this, Bool.and_false]
    rw [BitVec.toInt_eq_toNat_of_msb h1]
    omega
  have e : (Int32.ofInt a &&& Int32.ofInt 2147483647).toInt = ((Int32.ofInt a).toBitVec &&& 2147483647#32).toInt := rfl
  rw [e]
  exact h _
/-- the law's reading of the script -/
theorem P_gw_at0 {i : Instr} (hi : P_in P_Y0 y pc rt hs i nx r1 r2 kN kT) (ho : P_op i r1 r2 L st = none) (hb : P_br i st = none) (hh : ∀ h Ls xs, h.1[0]? = some (.inl (0, Ls, .inl xs)) → Ls ≤ 260 → P_hp P_Y0.1 P_Y0.2.1 i r1 r2 st h = some (st', h)) (k : P_gw d y nx (P_kill L kN) st' w σ g τ N u Q) : P_gw d y pc L st w σ g τ N u Q :=
  P_gw_hp hi ho hb (fun h hk => by
    obtain ⟨Ls, xs, h5, h6⟩ := hk.2.2.2.2
    exact ⟨h, hh h Ls xs h6 h5, hk⟩) k
end GW2
/-- from g, t to g2, t2 the cells below N are as they were -/
def P_xt (N : Nat) (g : P_Gl) (τ : P_A) (g' : P_Gl) (τ' : P_A) : Prop := ∀ x, x < N → g' x = g x ∧ ∀ j, τ' x j = τ x j
theorem P_xt_rf {N : Nat} {g : P_Gl} {τ : P_A} : P_xt N g τ g τ := fun _ _ => ⟨rfl, fun _ => rfl⟩
theorem P_xt_tr {N N1 : Nat} {g g1 g2 : P_Gl} {τ τ1 τ2 : P_A} (hN : N ≤ N1) (h : P_xt N g τ g1 τ1) (h2 : P_xt N1 g1 τ1 g2 τ2) : P_xt N g τ g2 τ2 := fun x hx => ⟨(h2 x (by omega)).1.trans (h x hx).1, fun j => ((h2 x (by omega)).2 j).trans ((h x hx).2 j)⟩
