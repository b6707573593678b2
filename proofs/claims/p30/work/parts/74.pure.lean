/-! PURE FACTS of walks -/
/-- from S to S' reads and checks grow, at most C checks a read; meetings grow by at most m -/
def A_gr (C m : Int) (S S' : A_st) : Prop := S.2.1 ≤ S'.2.1 ∧ S.2.2.1 ≤ S'.2.2.1 ∧ S'.2.2.1 - S.2.2.1 ≤ (S'.2.1 - S.2.1) * C ∧ S.2.2.2 ≤ S'.2.2.2 ∧ S'.2.2.2 ≤ S.2.2.2 + m
theorem A_gr_rf {C : Int} {S : A_st} : A_gr C 0 S S := by
  refine ⟨Int.le_refl _, Int.le_refl _, ?_, Int.le_refl _, by omega⟩
  rw [Int.sub_self, Int.sub_self, Int.zero_mul]
  exact Int.le_refl _
theorem A_gr_tr {C m m' : Int} {S S1 S2 : A_st} (h : A_gr C m S S1) (h2 : A_gr C m' S1 S2) : A_gr C (m + m') S S2 := by
  obtain ⟨a1, a2, a3, a4, a5⟩ := h
  obtain ⟨b1, b2, b3, b4, b5⟩ := h2
  refine ⟨by omega, by omega, ?_, by omega, by omega⟩
  have e : (S2.2.1 - S.2.1) * C = (S2.2.1 - S1.2.1) * C + (S1.2.1 - S.2.1) * C := by
    rw [← Int.add_mul]
    congr 1
    omega
  omega
theorem A_gr_w {C m m' : Int} {S S' : A_st} (h : A_gr C m S S') (hm : m ≤ m') : A_gr C m' S S' := ⟨h.1, h.2.1, h.2.2.1, h.2.2.2.1, by have := h.2.2.2.2; omega⟩
theorem A_gr_rd {C : Int} {hold : (Int → Int) → Bool × Int} {s r : Int} {S : A_st} (hh : ∀ ρ, 0 ≤ (hold ρ).2 ∧ (hold ρ).2 ≤ C) : A_gr C 0 S (A_rd hold s r S) := by
  have h := hh (A_up1 S.1 s r)
  refine ⟨?_, ?_, ?_, Int.le_refl _, ?_⟩
  · show S.2.1 ≤ S.2.1 + 1; omega
  · show S.2.2.1 ≤ S.2.2.1 + (hold (A_up1 S.1 s r)).2; omega
  · show S.2.2.1 + (hold (A_up1 S.1 s r)).2 - S.2.2.1 ≤ (S.2.1 + 1 - S.2.1) * C
    rw [show S.2.1 + 1 - S.2.1 = 1 by omega, Int.one_mul]
    omega
  · show S.2.2.2 ≤ S.2.2.2 + 0; omega
theorem A_gr_lp {C M most : Int} {hold : (Int → Int) → Bool × Int} {s : Int} {sub : A_st → A_st} (hh : ∀ ρ, 0 ≤ (hold ρ).2 ∧ (hold ρ).2 ≤ C) (hM : 0 ≤ M) (hs : ∀ S, A_gr C M S (sub S)) : ∀ (n : Nat) (r : Int) (S : A_st), A_gr C ((n : Int) * M) S (A_lp most hold s sub n r S) := by
  intro n
  induction n with
  | zero =>
    intro r S
    have e : ((0 : Nat) : Int) * M = 0 := Int.zero_mul _
    rw [e]
    exact A_gr_rf
  | succ n ih =>
    intro r S
    have e : ((n + 1 : Nat) : Int) * M = M + (n : Int) * M := by
      rw [Int.natCast_add, Int.add_mul]
      show (n : Int) * M + 1 * M = M + (n : Int) * M
      omega
    have hn : 0 ≤ (n : Int) * M := Int.mul_nonneg (by omega) hM
    rw [e]
    simp only [A_lp]
    split
    · refine A_gr_tr (S1 := if (hold (A_up1 S.1 s r)).1 = true then sub (A_rd hold s r S) else A_rd hold s r S) ?_ (ih _ _)
      split
      · exact A_gr_w (A_gr_tr (A_gr_rd hh) (hs _)) (by omega)
      · exact A_gr_w (A_gr_rd hh) hM
    · exact A_gr_w A_gr_rf (by omega)
theorem A_gr_inc {C : Int} {S : A_st} : A_gr C 1 S (A_inc S) := by
  refine ⟨Int.le_refl _, Int.le_refl _, ?_, by show S.2.2.2 ≤ S.2.2.2 + 1; omega, by show S.2.2.2 + 1 ≤ S.2.2.2 + 1; omega⟩
  show S.2.2.1 - S.2.2.1 ≤ (S.2.1 - S.2.1) * C
  rw [Int.sub_self, Int.sub_self, Int.zero_mul]
  exact Int.le_refl _
/-- rows times rows, k seats from the place p on -/
def A_rows (od rw : Int → Int) : Nat → Int → Int
  | 0, _ => 1
  | k + 1, p => rw (od p) * A_rows od rw k (p + 1)
theorem A_rows_nn {od rw : Int → Int} (h : ∀ p, 0 ≤ rw (od p)) : ∀ (k : Nat) (p : Int), 0 ≤ A_rows od rw k p
  | 0, _ => by simp [A_rows]
  | k + 1, p => Int.mul_nonneg (h p) (A_rows_nn h k (p + 1))
/-- a walk of k seats: checks are at most C a read, meetings at most rows times rows -/
theorem A_gr_go {C most : Int} {hold : Int → (Int → Int) → Bool × Int} {od rw : Int → Int} (hh : ∀ p ρ, 0 ≤ (hold p ρ).2 ∧ (hold p ρ).2 ≤ C) (hr : ∀ p, 0 ≤ rw (od p)) : ∀ (k : Nat) (p : Int) (S : A_st), A_gr C (A_rows od rw (k + 1) p) S (A_go most hold od rw (k + 1) p S) := by
  intro k
  induction k with
  | zero =>
    intro p S
    have h := A_gr_lp (most := most) (s := od p) (hh p) (show (0 : Int) ≤ 1 by omega) (fun S => A_gr_inc (C := C) (S := S)) (rw (od p)).toNat 0 S
    rw [Int.toNat_of_nonneg (hr p)] at h
    exact h
  | succ k ih =>
    intro p S
    have h := A_gr_lp (most := most) (s := od p) (hh p) (A_rows_nn hr (k + 1) (p + 1)) (fun S => ih (p + 1) S) (rw (od p)).toNat 0 S
    rw [Int.toNat_of_nonneg (hr p)] at h
    exact h
