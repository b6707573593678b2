/-! the law's own methods, written by wip/g1.py: 89a.walk -/
def A_lu (hold : (Int → Int) → Bool × Int) (s : Int) (sub : A_st → A_st) : Nat → Int → A_st → A_st
  | 0, _, S => S
  | n + 1, r, S => A_lu hold s sub n (r + 1) (if (hold (A_up1 S.1 s r)).1 = true then sub (A_rd hold s r S) else A_rd hold s r S)
def A_gu (hold : Int → (Int → Int) → Bool × Int) (od rw : Int → Int) : Nat → Int → A_st → A_st
  | 0 => fun _ S => S
  | k + 1 => fun p S => A_lu (hold p) (od p) (if k = 0 then A_inc else A_gu hold od rw k (p + 1)) (rw (od p)).toNat 0 S
theorem A_lu_eq {C M most : Int} {hold : (Int → Int) → Bool × Int} {s : Int} {sub sub' : A_st → A_st} (hh : ∀ ρ, 0 ≤ (hold ρ).2 ∧ (hold ρ).2 ≤ C) (hM : 0 ≤ M) (hs : ∀ S, A_gr C M S (sub S)) (he : ∀ S : A_st, S.2.2.2 + M < most → sub S = sub' S) : ∀ (n : Nat) (r : Int) (S : A_st), S.2.2.2 + (n : Int) * M < most → A_lp most hold s sub n r S = A_lu hold s sub' n r S := by
  intro n
  induction n with
  | zero => intro r S _; rfl
  | succ n ih =>
    intro r S h
    have e : ((n + 1 : Nat) : Int) * M = M + (n : Int) * M := by
      rw [Int.natCast_add, Int.add_mul]
      show (n : Int) * M + 1 * M = M + (n : Int) * M
      omega
    have hn : 0 ≤ (n : Int) * M := Int.mul_nonneg (by omega) hM
    rw [e] at h
    simp only [A_lp, A_lu]
    rw [if_pos (by omega)]
    have hr : (A_rd hold s r S).2.2.2 = S.2.2.2 := rfl
    rw [he (A_rd hold s r S) (by rw [hr]; omega)]
    refine ih _ _ ?_
    split
    · have h2 := (hs (A_rd hold s r S)).2.2.2.2
      rw [← he (A_rd hold s r S) (by rw [hr]; omega)]
      rw [hr] at h2
      omega
    · rw [hr]; omega
theorem A_gu_eq {C most : Int} {hold : Int → (Int → Int) → Bool × Int} {od rw : Int → Int} (hh : ∀ p ρ, 0 ≤ (hold p ρ).2 ∧ (hold p ρ).2 ≤ C) (hr : ∀ p, 0 ≤ rw (od p)) : ∀ (k : Nat) (p : Int) (S : A_st), S.2.2.2 + A_rows od rw (k + 1) p < most → A_go most hold od rw (k + 1) p S = A_gu hold od rw (k + 1) p S := by
  intro k
  induction k with
  | zero =>
    intro p S h
    refine A_lu_eq (most := most) (s := od p) (hh p) (show (0 : Int) ≤ 1 by omega) (fun S => A_gr_inc (C := C) (S := S)) (fun S _ => rfl) (rw (od p)).toNat 0 S ?_
    rw [Int.toNat_of_nonneg (hr p)]
    exact h
  | succ k ih =>
    intro p S h
    refine A_lu_eq (most := most) (s := od p) (hh p) (A_rows_nn hr (k + 1) (p + 1)) (fun S => A_gr_go hh hr k (p + 1) S) (fun S q => ih (p + 1) S q) (rw (od p)).toNat 0 S ?_
    rw [Int.toNat_of_nonneg (hr p)]
    exact h
/-- more hold: as many meetings, or more -/
def A_ag (od : Int → Int) (p : Int) (S S' : A_st) : Prop := (∀ q, 0 ≤ q → q < p → S.1 (od q) = S'.1 (od q)) ∧ S.2.2.2 ≤ S'.2.2.2
theorem A_lu_mono {h1 h2 : (Int → Int) → Bool × Int} {od : Int → Int} {p : Int} {sub1 sub2 : A_st → A_st} (hp : 0 ≤ p) (hinj : ∀ q, 0 ≤ q → q < p → od q ≠ od p) (hh : ∀ ρ ρ' : Int → Int, (∀ q, 0 ≤ q → q < p + 1 → ρ (od q) = ρ' (od q)) → (h1 ρ).1 = true → (h2 ρ').1 = true) (hs : ∀ S S', A_ag od (p + 1) S S' → A_ag od (p + 1) (sub1 S) (sub2 S')) (hs2 : ∀ S, A_ag od (p + 1) S (sub2 S)) : ∀ (n : Nat) (r : Int) (S S' : A_st), A_ag od p S S' → A_ag od p (A_lu h1 (od p) sub1 n r S) (A_lu h2 (od p) sub2 n r S') := by
  intro n
  induction n with
  | zero => intro r S S' h; exact h
  | succ n ih =>
    intro r S S' h
    simp only [A_lu]
    refine ih _ _ _ ?_
    have hrd : A_ag od (p + 1) (A_rd h1 (od p) r S) (A_rd h2 (od p) r S') := by
      refine ⟨fun q a b => ?_, h.2⟩
      show A_up1 S.1 (od p) r (od q) = A_up1 S'.1 (od p) r (od q)
      unfold A_up1
      by_cases e : od q = od p
      · rw [if_pos e, if_pos e]
      · rw [if_neg e, if_neg e]
        exact h.1 q a (by
          rcases (by omega : q < p ∨ q = p) with e2 | e2
          · exact e2
          · exact absurd (e2 ▸ rfl) e)
    have hw : ∀ A B : A_st, A_ag od (p + 1) A B → A_ag od p A B := fun A B x => ⟨fun q a b => x.1 q a (by omega), x.2⟩
    by_cases e1 : (h1 (A_up1 S.1 (od p) r)).1 = true
    · have e2 := hh _ (A_up1 S'.1 (od p) r) hrd.1 e1
      rw [if_pos e1, if_pos e2]
      exact hw _ _ (hs _ _ hrd)
    · rw [if_neg e1]
      by_cases e2 : (h2 (A_up1 S'.1 (od p) r)).1 = true
      · rw [if_pos e2]
        have h3 := hs2 (A_rd h2 (od p) r S')
        exact hw _ _ ⟨fun q a b => (hrd.1 q a b).trans (h3.1 q a b), Int.le_trans hrd.2 h3.2⟩
      · rw [if_neg e2]
        exact hw _ _ hrd
theorem A_lu_own {h2 : (Int → Int) → Bool × Int} {od : Int → Int} {p : Int} {sub2 : A_st → A_st} (hinj : ∀ q, 0 ≤ q → q < p → od q ≠ od p) (hs2 : ∀ S, A_ag od (p + 1) S (sub2 S)) : ∀ (n : Nat) (r : Int) (S : A_st), A_ag od p S (A_lu h2 (od p) sub2 n r S) := by
  intro n
  induction n with
  | zero => intro r S; exact ⟨fun _ _ _ => rfl, Int.le_refl _⟩
  | succ n ih =>
    intro r S
    simp only [A_lu]
    have hrd : A_ag od p S (A_rd h2 (od p) r S) := by
      refine ⟨fun q a b => ?_, Int.le_refl _⟩
      show S.1 (od q) = A_up1 S.1 (od p) r (od q)
      unfold A_up1
      rw [if_neg (hinj q a b)]
    have tr : ∀ A B C : A_st, A_ag od p A B → A_ag od p B C → A_ag od p A C := fun A B C x y => ⟨fun q a b => (x.1 q a b).trans (y.1 q a b), Int.le_trans x.2 y.2⟩
    refine tr _ _ _ ?_ (ih _ _)
    split
    · exact tr _ _ _ hrd ⟨fun q a b => (hs2 _).1 q a (by omega), (hs2 _).2⟩
    · exact hrd
theorem A_gu_own {h2 : Int → (Int → Int) → Bool × Int} {od rw : Int → Int} {nn : Nat} (hinj : ∀ q p, 0 ≤ q → q < p → p < (nn : Int) → od q ≠ od p) : ∀ (k : Nat) (p : Int), 0 ≤ p → p + (k : Int) ≤ (nn : Int) → ∀ S, A_ag od p S (A_gu h2 od rw k p S) := by
  intro k
  induction k with
  | zero => intro p _ _ S; exact ⟨fun _ _ _ => rfl, Int.le_refl _⟩
  | succ k ih =>
    intro p hp hk S
    simp only [A_gu]
    refine A_lu_own (fun q a b => hinj q p a b (by omega)) (fun S => ?_) _ _ _
    by_cases e : k = 0
    · rw [if_pos e]; exact ⟨fun _ _ _ => rfl, by show S.2.2.2 ≤ S.2.2.2 + 1; omega⟩
    · rw [if_neg e]; exact ih (p + 1) (by omega) (by omega) S
theorem A_gu_mono {h1 h2 : Int → (Int → Int) → Bool × Int} {od rw : Int → Int} {nn : Nat} (hinj : ∀ q p, 0 ≤ q → q < p → p < (nn : Int) → od q ≠ od p) (hh : ∀ p, 0 ≤ p → p < (nn : Int) → ∀ ρ ρ' : Int → Int, (∀ q, 0 ≤ q → q < p + 1 → ρ (od q) = ρ' (od q)) → (h1 p ρ).1 = true → (h2 p ρ').1 = true) : ∀ (k : Nat) (p : Int), 0 ≤ p → p + (k : Int) ≤ (nn : Int) → ∀ S S', A_ag od p S S' → A_ag od p (A_gu h1 od rw k p S) (A_gu h2 od rw k p S') := by
  intro k
  induction k with
  | zero => intro p _ _ S S' h; exact h
  | succ k ih =>
    intro p hp hk S S' h
    simp only [A_gu]
    refine A_lu_mono hp (fun q a b => hinj q p a b (by omega)) (hh p hp (by omega)) (fun S S' h => ?_) (fun S => ?_) _ _ _ _ h
    · by_cases e : k = 0
      · rw [if_pos e, if_pos e]
        exact ⟨h.1, by show S.2.2.2 + 1 ≤ S'.2.2.2 + 1; have := h.2; omega⟩
      · rw [if_neg e, if_neg e]; exact ih (p + 1) (by omega) (by omega) S S' h
    · by_cases e : k = 0
      · rw [if_pos e]; exact ⟨fun _ _ _ => rfl, by show S.2.2.2 ≤ S.2.2.2 + 1; omega⟩
      · rw [if_neg e]; exact A_gu_own hinj k (p + 1) (by omega) (by omega) S
theorem A_hl_mono {v v' : Int → Int} {lv k : Int} : ∀ (cs : List A_cd) (i : Int), 0 ≤ i → (∀ x ∈ cs, A_cf x 3 = lv → A_sat v x = true → A_sat v' x = true) → (A_hl v lv (-1) cs i).1 = true → (A_hl v' lv k cs i).1 = true
  | [], _, _, _, _ => rfl
  | x :: r, i, hi, hx, h => by
    have ih := A_hl_mono (v := v) (v' := v') (lv := lv) (k := k) r (i + 1) (by omega) (fun y hy => hx y (List.mem_cons_of_mem _ hy))
    simp only [A_hl] at h ⊢
    by_cases e : A_cf x 3 ≠ lv
    · rw [if_pos (Or.inl e)] at h
      rw [if_pos (Or.inl e)]
      exact ih h
    · rw [if_neg (by omega)] at h
      by_cases s : A_sat v x = true
      · rw [if_pos s] at h
        by_cases e2 : A_cf x 3 ≠ lv ∨ i = k
        · rw [if_pos e2]; exact ih h
        · rw [if_neg e2, if_pos (hx x List.mem_cons_self (by omega) s)]
          exact ih h
      · rw [if_neg s] at h
        cases h
/-- reads are few -/
theorem A_rb_lp {M most : Int} {hold : (Int → Int) → Bool × Int} {s : Int} {sub : A_st → A_st} (hM : 0 ≤ M) (hs : ∀ S : A_st, (sub S).2.1 ≤ S.2.1 + M) : ∀ (n : Nat) (r : Int) (S : A_st), (A_lp most hold s sub n r S).2.1 ≤ S.2.1 + (n : Int) * (1 + M) := by
  intro n
  induction n with
  | zero => intro r S; simp only [A_lp]; rw [show ((0 : Nat) : Int) * (1 + M) = 0 from Int.zero_mul _]; omega
  | succ n ih =>
    intro r S
    have e : ((n + 1 : Nat) : Int) * (1 + M) = (1 + M) + (n : Int) * (1 + M) := by
      rw [Int.natCast_add, Int.add_mul]
      show (n : Int) * (1 + M) + 1 * (1 + M) = (1 + M) + (n : Int) * (1 + M)
      omega
    have hn : 0 ≤ (n : Int) * (1 + M) := Int.mul_nonneg (by omega) (by omega)
    rw [e]
    simp only [A_lp]
    split
    · refine Int.le_trans (ih _ _) ?_
      have hr : (A_rd hold s r S).2.1 = S.2.1 + 1 := rfl
      split
      · have := hs (A_rd hold s r S); omega
      · omega
    · omega
def A_rb : Nat → Int
  | 0 => 0
  | k + 1 => 7 * (1 + A_rb k)
theorem A_rb_nn : ∀ k, 0 ≤ A_rb k
  | 0 => Int.le_refl _
  | k + 1 => by have := A_rb_nn k; simp only [A_rb]; omega
theorem A_rb_go {most : Int} {hold : Int → (Int → Int) → Bool × Int} {od rw : Int → Int} {nn : Nat} (hr : ∀ p, 0 ≤ p → p < (nn : Int) → 0 ≤ rw (od p) ∧ rw (od p) ≤ 7) : ∀ (k : Nat) (p : Int) (S : A_st), 0 ≤ p → p + (k : Int) ≤ (nn : Int) → (A_go most hold od rw k p S).2.1 ≤ S.2.1 + A_rb k := by
  intro k
  induction k with
  | zero => intro p S _ _; simp only [A_go, A_rb]; omega
  | succ k ih =>
    intro p S hp hk
    have hrp := hr p hp (by omega)
    have hb := A_rb_nn k
    simp only [A_go, A_rb]
    refine Int.le_trans (A_rb_lp (M := A_rb k) hb (fun S => ?_) _ _ _) ?_
    · by_cases e : k = 0
      · rw [if_pos e]; show S.2.1 ≤ S.2.1 + A_rb k; omega
      · rw [if_neg e]; exact ih (p + 1) S (by omega) (by omega)
    · have := Int.mul_le_mul_of_nonneg_right (show ((rw (od p)).toNat : Int) ≤ 7 by omega) (show 0 ≤ 1 + A_rb k by omega)
      omega
theorem A_rows_rg {od rw : Int → Int} {nn : Nat} (hr : ∀ p, 0 ≤ p → p < (nn : Int) → 0 ≤ rw (od p) ∧ rw (od p) ≤ 7) (hnn : 1 ≤ nn ∧ nn ≤ 3) : 0 ≤ A_rows od rw nn 0 ∧ A_rows od rw nn 0 ≤ 343 := by
  have h0 := hr 0 (by omega) (by omega)
  rcases (by omega : nn = 1 ∨ nn = 2 ∨ nn = 3) with rfl | rfl | rfl
  · simp only [A_rows, Int.mul_one]; omega
  · have h1 := hr 1 (by omega) (by omega)
    have m1 := A_mb h0.1 h1.1 h1.2
    simp only [A_rows, Int.mul_one, Int.zero_add]; omega
  · have h1 := hr 1 (by omega) (by omega)
    have h2 := hr 2 (by omega) (by omega)
    have m1 := A_mb h1.1 h2.1 h2.2
    have m2 := A_mb h0.1 m1.1 (show rw (od 1) * rw (od 2) ≤ 49 by omega)
    simp only [A_rows, Int.mul_one, Int.zero_add]
    show 0 ≤ rw (od 0) * (rw (od 1) * rw (od 2)) ∧ rw (od 0) * (rw (od 1) * rw (od 2)) ≤ 343
    omega
/-- rows times rows by places is that by seats -/
theorem A_rows_all {od rw : Int → Int} {nn : Nat} (hnn : 1 ≤ nn ∧ nn ≤ 3) (h3 : ∀ j, 0 ≤ j → j < (nn : Int) → 0 ≤ od j ∧ od j < (nn : Int)) (h4 : ∀ s, 0 ≤ s → s < (nn : Int) → od 0 = s ∨ 1 < nn ∧ od 1 = s ∨ 2 < nn ∧ od 2 = s) : A_all rw (nn : Int) = A_rows od rw nn 0 := by
  have a0 := h3 0 (by omega) (by omega)
  have b0 := h4 0 (by omega) (by omega)
  rcases (by omega : nn = 1 ∨ nn = 2 ∨ nn = 3) with rfl | rfl | rfl
  · have e : od 0 = 0 := by omega
    simp only [A_all, A_rows, e]
    simp
  · have a1 := h3 1 (by omega) (by omega)
    have b1 := h4 1 (by omega) (by omega)
    have e : (od 0 = 0 ∧ od 1 = 1) ∨ (od 0 = 1 ∧ od 1 = 0) := by omega
    simp only [A_all, A_rows]
    rcases e with ⟨e0, e1⟩ | ⟨e0, e1⟩ <;> simp [e0, e1, Int.mul_comm]
  · have a1 := h3 1 (by omega) (by omega)
    have b1 := h4 1 (by omega) (by omega)
    have a2 := h3 2 (by omega) (by omega)
    have b2 := h4 2 (by omega) (by omega)
    have e : (od 0 = 0 ∧ od 1 = 1 ∧ od 2 = 2) ∨ (od 0 = 0 ∧ od 1 = 2 ∧ od 2 = 1) ∨ (od 0 = 1 ∧ od 1 = 0 ∧ od 2 = 2) ∨ (od 0 = 1 ∧ od 1 = 2 ∧ od 2 = 0) ∨ (od 0 = 2 ∧ od 1 = 0 ∧ od 2 = 1) ∨ (od 0 = 2 ∧ od 1 = 1 ∧ od 2 = 0) := by omega
    simp only [A_all, A_rows]
    rcases e with ⟨e0, e1, e2⟩ | ⟨e0, e1, e2⟩ | ⟨e0, e1, e2⟩ | ⟨e0, e1, e2⟩ | ⟨e0, e1, e2⟩ | ⟨e0, e1, e2⟩ <;> simp [e0, e1, e2, Int.mul_comm, Int.mul_left_comm, Int.mul_assoc]