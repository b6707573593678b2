/-! the law's own methods, written by wip/g1.py: 89b.dbl -/
def G_nn (x : UInt64) : Prop := x &&& 0x7fffffffffffffff ≤ 0x7ff0000000000000
def G_hf : UInt64 := UInt64.ofNat 4602678819172646912
/-- what the share times the rows is -/
def G_dck (a c : Nat) : Bool :=
  let A := FP.i2d (Int32.ofNat a)
  let q := FP.ddiv (FP.i2d (Int32.ofNat c)) A
  let m := FP.dmul q A
  let e := FP.dadd m G_hf
  decide (q &&& 0x7fffffffffffffff ≤ 0x7ff0000000000000) && decide (m &&& 0x7fffffffffffffff ≤ 0x7ff0000000000000) && decide (e &&& 0x7fffffffffffffff ≤ 0x7ff0000000000000) && !(P_cc .lt (Op.cmpValue (FP.dcmp m 0) .g) 0) && !(P_cc .gt (Op.cmpValue (FP.dcmp m A) .l) 0) && decide (FP.d2i e = Int32.ofNat c)
def G_dls (l : List Nat) : Bool := l.all fun a => (List.range (a + 1)).all fun c => G_dck a c
theorem G_dls_0 : G_dls [1, 2, 3, 4, 5, 6, 7, 8, 9, 10, 12, 14, 15, 16, 18, 20, 21, 24, 25, 27, 28, 30, 32, 35, 36, 40, 42, 45, 48, 49, 50, 54, 56, 60, 63, 64, 70, 72, 75, 80, 84, 90, 96, 98, 100, 105] = true := by decide +kernel
theorem G_dls_1 : G_dls [108, 112, 120, 125, 126, 140, 144, 147, 150, 168, 175, 180, 196] = true := by decide +kernel
theorem G_dls_2 : G_dls [210, 216, 245, 252, 294, 343] = true := by decide +kernel
def G_dl : List Nat := [1, 2, 3, 4, 5, 6, 7, 8, 9, 10, 12, 14, 15, 16, 18, 20, 21, 24, 25, 27, 28, 30, 32, 35, 36, 40, 42, 45, 48, 49, 50, 54, 56, 60, 63, 64, 70, 72, 75, 80, 84, 90, 96, 98, 100, 105] ++ [108, 112, 120, 125, 126, 140, 144, 147, 150, 168, 175, 180, 196] ++ [210, 216, 245, 252, 294, 343]
theorem G_dls_app {l m : List Nat} (h : G_dls l = true) (h2 : G_dls m = true) : G_dls (l ++ m) = true := by
  unfold G_dls at *
  rw [List.all_append, h, h2]
  rfl
theorem G_dls_all : G_dls G_dl = true := (G_dls_app (G_dls_app G_dls_0 G_dls_1) G_dls_2)
theorem G_dl_mem : ∀ x : Fin 8, ∀ y : Fin 8, ∀ z : Fin 8, (x.val = 0 ∨ y.val = 0 ∨ z.val = 0) ∨ G_dl.contains (x.val * y.val * z.val) = true := by decide +kernel
theorem G_dck_at {x y z c : Nat} (hx : x ≤ 7) (hy : y ≤ 7) (hz : z ≤ 7) (h0 : x * y * z ≠ 0) (hc : c ≤ x * y * z) : G_dck (x * y * z) c = true := by
  rcases G_dl_mem ⟨x, by omega⟩ ⟨y, by omega⟩ ⟨z, by omega⟩ with h | h
  · simp only at h
    rcases h with h | h | h <;> subst h <;> simp at h0
  · simp only at h
    have h1 := G_dls_all
    unfold G_dls at h1
    rw [List.all_eq_true] at h1
    have h2 := h1 _ (by rw [List.contains_iff_mem] at h; exact h)
    rw [List.all_eq_true] at h2
    exact h2 c (List.mem_range.mpr (by omega))
def G_sh (a C nv : Int) : UInt64 := if a = 0 ∨ nv = 1 then 0 else FP.ddiv (FP.i2d (Int32.ofInt C)) (FP.i2d (Int32.ofInt a))
def G_mv (a C nv : Int) : UInt64 := FP.dmul (G_sh a C nv) (FP.i2d (Int32.ofInt a))
def G_cc (a C nv : Int) : Int := if a = 0 ∨ nv = 1 then 0 else C
/-- all that the law asks of the share -/
def G_dfc (a C nv : Int) : Prop := (¬ (a = 0 ∨ nv = 1) → FP.ddiv (FP.i2d (Int32.ofInt C)) (FP.i2d (Int32.ofInt a)) &&& 0x7fffffffffffffff ≤ 0x7ff0000000000000) ∧ (FP.dmul (G_sh a C nv) (FP.i2d (Int32.ofInt a)) &&& 0x7fffffffffffffff ≤ 0x7ff0000000000000) ∧ (FP.dadd (G_mv a C nv) G_hf &&& 0x7fffffffffffffff ≤ 0x7ff0000000000000) ∧ P_cc .lt (Op.cmpValue (FP.dcmp (G_mv a C nv) 0) .g) 0 = false ∧ P_cc .gt (Op.cmpValue (FP.dcmp (G_mv a C nv) (FP.i2d (Int32.ofInt a))) .l) 0 = false ∧ FP.d2i (FP.dadd (G_mv a C nv) G_hf) = Int32.ofInt (G_cc a C nv)
def G_z0 (a : Nat) : Bool :=
  let A := FP.i2d (Int32.ofNat a)
  let m := FP.dmul 0 A
  let e := FP.dadd m G_hf
  decide (m &&& 0x7fffffffffffffff ≤ 0x7ff0000000000000) && decide (e &&& 0x7fffffffffffffff ≤ 0x7ff0000000000000) && !(P_cc .lt (Op.cmpValue (FP.dcmp m 0) .g) 0) && !(P_cc .gt (Op.cmpValue (FP.dcmp m A) .l) 0) && decide (FP.d2i e = Int32.ofInt 0)
theorem G_z0_all : ((List.range 344).all fun a => G_z0 a) = true := by decide +kernel
theorem G_dbl {x y z : Nat} (hx : x ≤ 7) (hy : y ≤ 7) (hz : z ≤ 7) {a C nv : Int} (ha : a = ((x * y * z : Nat) : Int)) (h343 : x * y * z ≤ 343) (hC : 0 ≤ C ∧ C ≤ a) : G_dfc a C nv := by
  subst ha
  obtain ⟨c, rfl⟩ : ∃ c : Nat, C = (c : Int) := ⟨C.toNat, by omega⟩
  unfold G_dfc G_mv
  by_cases h : ((x * y * z : Nat) : Int) = 0 ∨ nv = 1
  · have h1 := G_z0_all
    rw [List.all_eq_true] at h1
    have h2 := h1 (x * y * z) (List.mem_range.mpr (by omega))
    unfold G_z0 at h2
    simp only [Bool.and_eq_true, decide_eq_true_eq, Bool.not_eq_true'] at h2
    obtain ⟨⟨⟨⟨b1, b2⟩, b3⟩, b4⟩, b5⟩ := h2
    unfold G_sh G_cc
    rw [if_pos h, if_pos h]
    exact ⟨fun q => absurd h q, b1, b2, b3, b4, b5⟩
  · have h2 := G_dck_at (c := c) hx hy hz (by omega) (by omega)
    unfold G_dck at h2
    simp only [Bool.and_eq_true, decide_eq_true_eq, Bool.not_eq_true'] at h2
    obtain ⟨⟨⟨⟨⟨b0, b1⟩, b2⟩, b3⟩, b4⟩, b5⟩ := h2
    unfold G_sh G_cc
    rw [if_neg h, if_neg h]
    exact ⟨fun _ => b0, b1, b2, b3, b4, b5⟩