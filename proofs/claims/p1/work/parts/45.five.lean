/-! p1: all scripts of at most five ints, written by wip/p1.py -/
theorem P_cc_lt {x y : Int32} : P_cc .lt x y = decide (x.toInt < y.toInt) := by simp only [P_cc, Int32.lt_iff_toInt_lt]
theorem P_cc_ge {x y : Int32} : P_cc .ge x y = decide (y.toInt ≤ x.toInt) := by simp only [P_cc, Int32.le_iff_toInt_le]
theorem P_cc_gt {x y : Int32} : P_cc .gt x y = decide (y.toInt < x.toInt) := by simp only [P_cc, Int32.lt_iff_toInt_lt]
theorem P_cc_le {x y : Int32} : P_cc .le x y = decide (x.toInt ≤ y.toInt) := by simp only [P_cc, Int32.le_iff_toInt_le]
theorem P_cc_eq {x y : Int32} : P_cc .eq x y = decide (x.toInt = y.toInt) := by simp only [P_cc, Int32.toInt_inj]
theorem P_cc_ne {x y : Int32} : P_cc .ne x y = decide (¬ x.toInt = y.toInt) := by simp only [P_cc, Int32.toInt_inj]
theorem P_and31 (x : Int32) : ∃ k : Nat, k < 32 ∧ x &&& 31 = Int32.ofNat k := by
  refine ⟨(x &&& 31).toBitVec.toNat, ?_, ?_⟩
  · have h : (x &&& 31).toBitVec = x.toBitVec &&& 31#32 := rfl
    rw [h, BitVec.toNat_and]
    exact Nat.lt_of_le_of_lt Nat.and_le_right (by decide)
  · refine Int32.toBitVec_inj.mp ?_
    show (x &&& 31).toBitVec = BitVec.ofNat 32 _
    rw [BitVec.ofNat_toNat, BitVec.setWidth_eq]
def P_okR (r : P_R) (h : P_H) : Prop := r = .inl (some (.int 1)) ∧ h.2.1 ≤ 600002 ∧ h.2.2 ≤ 7302232
theorem P_sv0 (xs : Nat → Int32) (hsw : xs 0 &&& 31 = 0) : P_wp P_Y0 200 0 (28, [.ref 0, .ref 2, .ref 47, .ref 63, .ref 64, .int 0, P_un, P_un, P_un], [], (P_hv132 xs 5)) P_okR := by
  have em1 : ((-1) : Int32).toInt = (-1) := by decide
  have e0 : (0 : Int32).toInt = 0 := by decide
  have e1 : (1 : Int32).toInt = 1 := by decide
  have e2 : (2 : Int32).toInt = 2 := by decide
  have e3 : (3 : Int32).toInt = 3 := by decide
  have e4 : (4 : Int32).toInt = 4 := by decide
  have e11 : (11 : Int32).toInt = 11 := by decide
  have e20 : (20 : Int32).toInt = 20 := by decide
  have e24 : (24 : Int32).toInt = 24 := by decide
  have e25 : (25 : Int32).toInt = 25 := by decide
  have e100 : (100 : Int32).toInt = 100 := by decide
  have e199 : (199 : Int32).toInt = 199 := by decide
  have e1000 : (1000 : Int32).toInt = 1000 := by decide
  have e1999 : (1999 : Int32).toInt = 1999 := by decide
  cases f0 : P_cc .lt (xs 1) 1
  case false =>
    cases f1 : P_cc .le (xs 1) 3
    case false =>
      exact P_pa2 xs hsw (by first | assumption | (simp only [P_cc_lt, P_cc_ge, P_cc_gt, P_cc_le, P_cc_eq, P_cc_ne, decide_eq_true_eq, decide_eq_false_iff_not, em1, e0, e1, e2, e3, e4, e11, e20, e24, e25, e100, e199, e1000, e1999] at *; omega)) (by first | assumption | (simp only [P_cc_lt, P_cc_ge, P_cc_gt, P_cc_le, P_cc_eq, P_cc_ne, decide_eq_true_eq, decide_eq_false_iff_not, em1, e0, e1, e2, e3, e4, e11, e20, e24, e25, e100, e199, e1000, e1999] at *; omega)) (by first | assumption | (simp only [P_cc_lt, P_cc_ge, P_cc_gt, P_cc_le, P_cc_eq, P_cc_ne, decide_eq_true_eq, decide_eq_false_iff_not, em1, e0, e1, e2, e3, e4, e11, e20, e24, e25, e100, e199, e1000, e1999] at *; omega)) (by first | assumption | (simp only [P_cc_lt, P_cc_ge, P_cc_gt, P_cc_le, P_cc_eq, P_cc_ne, decide_eq_true_eq, decide_eq_false_iff_not, em1, e0, e1, e2, e3, e4, e11, e20, e24, e25, e100, e199, e1000, e1999] at *; omega))
    case true =>
      exact P_pa1 xs hsw (by first | assumption | (simp only [P_cc_lt, P_cc_ge, P_cc_gt, P_cc_le, P_cc_eq, P_cc_ne, decide_eq_true_eq, decide_eq_false_iff_not, em1, e0, e1, e2, e3, e4, e11, e20, e24, e25, e100, e199, e1000, e1999] at *; omega)) (by first | assumption | (simp only [P_cc_lt, P_cc_ge, P_cc_gt, P_cc_le, P_cc_eq, P_cc_ne, decide_eq_true_eq, decide_eq_false_iff_not, em1, e0, e1, e2, e3, e4, e11, e20, e24, e25, e100, e199, e1000, e1999] at *; omega)) (by first | assumption | (simp only [P_cc_lt, P_cc_ge, P_cc_gt, P_cc_le, P_cc_eq, P_cc_ne, decide_eq_true_eq, decide_eq_false_iff_not, em1, e0, e1, e2, e3, e4, e11, e20, e24, e25, e100, e199, e1000, e1999] at *; omega)) (by first | assumption | (simp only [P_cc_lt, P_cc_ge, P_cc_gt, P_cc_le, P_cc_eq, P_cc_ne, decide_eq_true_eq, decide_eq_false_iff_not, em1, e0, e1, e2, e3, e4, e11, e20, e24, e25, e100, e199, e1000, e1999] at *; omega))
  case true =>
    exact P_pa0 xs hsw (by first | assumption | (simp only [P_cc_lt, P_cc_ge, P_cc_gt, P_cc_le, P_cc_eq, P_cc_ne, decide_eq_true_eq, decide_eq_false_iff_not, em1, e0, e1, e2, e3, e4, e11, e20, e24, e25, e100, e199, e1000, e1999] at *; omega)) (by first | assumption | (simp only [P_cc_lt, P_cc_ge, P_cc_gt, P_cc_le, P_cc_eq, P_cc_ne, decide_eq_true_eq, decide_eq_false_iff_not, em1, e0, e1, e2, e3, e4, e11, e20, e24, e25, e100, e199, e1000, e1999] at *; omega))
theorem P_sv1 (xs : Nat → Int32) (hsw : xs 0 &&& 31 = 1) : P_wp P_Y0 200 0 (28, [.ref 0, .ref 2, .ref 47, .ref 63, .ref 64, .int 0, P_un, P_un, P_un], [], (P_hv132 xs 5)) P_okR := by
  have em1 : ((-1) : Int32).toInt = (-1) := by decide
  have e0 : (0 : Int32).toInt = 0 := by decide
  have e1 : (1 : Int32).toInt = 1 := by decide
  have e2 : (2 : Int32).toInt = 2 := by decide
  have e3 : (3 : Int32).toInt = 3 := by decide
  have e4 : (4 : Int32).toInt = 4 := by decide
  have e11 : (11 : Int32).toInt = 11 := by decide
  have e20 : (20 : Int32).toInt = 20 := by decide
  have e24 : (24 : Int32).toInt = 24 := by decide
  have e25 : (25 : Int32).toInt = 25 := by decide
  have e100 : (100 : Int32).toInt = 100 := by decide
  have e199 : (199 : Int32).toInt = 199 := by decide
  have e1000 : (1000 : Int32).toInt = 1000 := by decide
  have e1999 : (1999 : Int32).toInt = 1999 := by decide
  cases f0 : P_cc .lt (xs 1) 0
  case false =>
    exact P_pa4 xs hsw (by first | assumption | (simp only [P_cc_lt, P_cc_ge, P_cc_gt, P_cc_le, P_cc_eq, P_cc_ne, decide_eq_true_eq, decide_eq_false_iff_not, em1, e0, e1, e2, e3, e4, e11, e20, e24, e25, e100, e199, e1000, e1999] at *; omega)) (by first | assumption | (simp only [P_cc_lt, P_cc_ge, P_cc_gt, P_cc_le, P_cc_eq, P_cc_ne, decide_eq_true_eq, decide_eq_false_iff_not, em1, e0, e1, e2, e3, e4, e11, e20, e24, e25, e100, e199, e1000, e1999] at *; omega)) (by first | assumption | (simp only [P_cc_lt, P_cc_ge, P_cc_gt, P_cc_le, P_cc_eq, P_cc_ne, decide_eq_true_eq, decide_eq_false_iff_not, em1, e0, e1, e2, e3, e4, e11, e20, e24, e25, e100, e199, e1000, e1999] at *; omega)) (by first | assumption | (simp only [P_cc_lt, P_cc_ge, P_cc_gt, P_cc_le, P_cc_eq, P_cc_ne, decide_eq_true_eq, decide_eq_false_iff_not, em1, e0, e1, e2, e3, e4, e11, e20, e24, e25, e100, e199, e1000, e1999] at *; omega))
  case true =>
    exact P_pa3 xs hsw (by first | assumption | (simp only [P_cc_lt, P_cc_ge, P_cc_gt, P_cc_le, P_cc_eq, P_cc_ne, decide_eq_true_eq, decide_eq_false_iff_not, em1, e0, e1, e2, e3, e4, e11, e20, e24, e25, e100, e199, e1000, e1999] at *; omega)) (by first | assumption | (simp only [P_cc_lt, P_cc_ge, P_cc_gt, P_cc_le, P_cc_eq, P_cc_ne, decide_eq_true_eq, decide_eq_false_iff_not, em1, e0, e1, e2, e3, e4, e11, e20, e24, e25, e100, e199, e1000, e1999] at *; omega))
theorem P_sv2 (xs : Nat → Int32) (hsw : xs 0 &&& 31 = 2) : P_wp P_Y0 200 0 (28, [.ref 0, .ref 2, .ref 47, .ref 63, .ref 64, .int 0, P_un, P_un, P_un], [], (P_hv132 xs 5)) P_okR := by
  have em1 : ((-1) : Int32).toInt = (-1) := by decide
  have e0 : (0 : Int32).toInt = 0 := by decide
  have e1 : (1 : Int32).toInt = 1 := by decide
  have e2 : (2 : Int32).toInt = 2 := by decide
  have e3 : (3 : Int32).toInt = 3 := by decide
  have e4 : (4 : Int32).toInt = 4 := by decide
  have e11 : (11 : Int32).toInt = 11 := by decide
  have e20 : (20 : Int32).toInt = 20 := by decide
  have e24 : (24 : Int32).toInt = 24 := by decide
  have e25 : (25 : Int32).toInt = 25 := by decide
  have e100 : (100 : Int32).toInt = 100 := by decide
  have e199 : (199 : Int32).toInt = 199 := by decide
  have e1000 : (1000 : Int32).toInt = 1000 := by decide
  have e1999 : (1999 : Int32).toInt = 1999 := by decide
  cases f0 : P_cc .lt (xs 1) 0
  case false =>
    exact P_pa6 xs hsw (by first | assumption | (simp only [P_cc_lt, P_cc_ge, P_cc_gt, P_cc_le, P_cc_eq, P_cc_ne, decide_eq_true_eq, decide_eq_false_iff_not, em1, e0, e1, e2, e3, e4, e11, e20, e24, e25, e100, e199, e1000, e1999] at *; omega)) (by first | assumption | (simp only [P_cc_lt, P_cc_ge, P_cc_gt, P_cc_le, P_cc_eq, P_cc_ne, decide_eq_true_eq, decide_eq_false_iff_not, em1, e0, e1, e2, e3, e4, e11, e20, e24, e25, e100, e199, e1000, e1999] at *; omega)) (by first | assumption | (simp only [P_cc_lt, P_cc_ge, P_cc_gt, P_cc_le, P_cc_eq, P_cc_ne, decide_eq_true_eq, decide_eq_false_iff_not, em1, e0, e1, e2, e3, e4, e11, e20, e24, e25, e100, e199, e1000, e1999] at *; omega)) (by first | assumption | (simp only [P_cc_lt, P_cc_ge, P_cc_gt, P_cc_le, P_cc_eq, P_cc_ne, decide_eq_true_eq, decide_eq_false_iff_not, em1, e0, e1, e2, e3, e4, e11, e20, e24, e25, e100, e199, e1000, e1999] at *; omega))
  case true =>
    exact P_pa5 xs hsw (by first | assumption | (simp only [P_cc_lt, P_cc_ge, P_cc_gt, P_cc_le, P_cc_eq, P_cc_ne, decide_eq_true_eq, decide_eq_false_iff_not, em1, e0, e1, e2, e3, e4, e11, e20, e24, e25, e100, e199, e1000, e1999] at *; omega)) (by first | assumption | (simp only [P_cc_lt, P_cc_ge, P_cc_gt, P_cc_le, P_cc_eq, P_cc_ne, decide_eq_true_eq, decide_eq_false_iff_not, em1, e0, e1, e2, e3, e4, e11, e20, e24, e25, e100, e199, e1000, e1999] at *; omega))
theorem P_sv3 (xs : Nat → Int32) (hsw : xs 0 &&& 31 = 3) : P_wp P_Y0 200 0 (28, [.ref 0, .ref 2, .ref 47, .ref 63, .ref 64, .int 0, P_un, P_un, P_un], [], (P_hv132 xs 5)) P_okR := by
  have em1 : ((-1) : Int32).toInt = (-1) := by decide
  have e0 : (0 : Int32).toInt = 0 := by decide
  have e1 : (1 : Int32).toInt = 1 := by decide
  have e2 : (2 : Int32).toInt = 2 := by decide
  have e3 : (3 : Int32).toInt = 3 := by decide
  have e4 : (4 : Int32).toInt = 4 := by decide
  have e11 : (11 : Int32).toInt = 11 := by decide
  have e20 : (20 : Int32).toInt = 20 := by decide
  have e24 : (24 : Int32).toInt = 24 := by decide
  have e25 : (25 : Int32).toInt = 25 := by decide
  have e100 : (100 : Int32).toInt = 100 := by decide
  have e199 : (199 : Int32).toInt = 199 := by decide
  have e1000 : (1000 : Int32).toInt = 1000 := by decide
  have e1999 : (1999 : Int32).toInt = 1999 := by decide
  cases f0 : P_cc .lt (xs 1) 0
  case false =>
    exact P_pa8 xs hsw (by first | assumption | (simp only [P_cc_lt, P_cc_ge, P_cc_gt, P_cc_le, P_cc_eq, P_cc_ne, decide_eq_true_eq, decide_eq_false_iff_not, em1, e0, e1, e2, e3, e4, e11, e20, e24, e25, e100, e199, e1000, e1999] at *; omega)) (by first | assumption | (simp only [P_cc_lt, P_cc_ge, P_cc_gt, P_cc_le, P_cc_eq, P_cc_ne, decide_eq_true_eq, decide_eq_false_iff_not, em1, e0, e1, e2, e3, e4, e11, e20, e24, e25, e100, e199, e1000, e1999] at *; omega)) (by first | assumption | (simp only [P_cc_lt, P_cc_ge, P_cc_gt, P_cc_le, P_cc_eq, P_cc_ne, decide_eq_true_eq, decide_eq_false_iff_not, em1, e0, e1, e2, e3, e4, e11, e20, e24, e25, e100, e199, e1000, e1999] at *; omega)) (by first | assumption | (simp only [P_cc_lt, P_cc_ge, P_cc_gt, P_cc_le, P_cc_eq, P_cc_ne, decide_eq_true_eq, decide_eq_false_iff_not, em1, e0, e1, e2, e3, e4, e11, e20, e24, e25, e100, e199, e1000, e1999] at *; omega))
  case true =>
    exact P_pa7 xs hsw (by first | assumption | (simp only [P_cc_lt, P_cc_ge, P_cc_gt, P_cc_le, P_cc_eq, P_cc_ne, decide_eq_true_eq, decide_eq_false_iff_not, em1, e0, e1, e2, e3, e4, e11, e20, e24, e25, e100, e199, e1000, e1999] at *; omega)) (by first | assumption | (simp only [P_cc_lt, P_cc_ge, P_cc_gt, P_cc_le, P_cc_eq, P_cc_ne, decide_eq_true_eq, decide_eq_false_iff_not, em1, e0, e1, e2, e3, e4, e11, e20, e24, e25, e100, e199, e1000, e1999] at *; omega))
theorem P_sv4 (xs : Nat → Int32) (hsw : xs 0 &&& 31 = 4) : P_wp P_Y0 200 0 (28, [.ref 0, .ref 2, .ref 47, .ref 63, .ref 64, .int 0, P_un, P_un, P_un], [], (P_hv132 xs 5)) P_okR := by
  have em1 : ((-1) : Int32).toInt = (-1) := by decide
  have e0 : (0 : Int32).toInt = 0 := by decide
  have e1 : (1 : Int32).toInt = 1 := by decide
  have e2 : (2 : Int32).toInt = 2 := by decide
  have e3 : (3 : Int32).toInt = 3 := by decide
  have e4 : (4 : Int32).toInt = 4 := by decide
  have e11 : (11 : Int32).toInt = 11 := by decide
  have e20 : (20 : Int32).toInt = 20 := by decide
  have e24 : (24 : Int32).toInt = 24 := by decide
  have e25 : (25 : Int32).toInt = 25 := by decide
  have e100 : (100 : Int32).toInt = 100 := by decide
  have e199 : (199 : Int32).toInt = 199 := by decide
  have e1000 : (1000 : Int32).toInt = 1000 := by decide
  have e1999 : (1999 : Int32).toInt = 1999 := by decide
  cases f0 : P_cc .lt (xs 1) 0
  case false =>
    cases f1 : P_cc .le (xs 1) 11
    case false =>
      cases f2 : P_cc .lt (xs 1) 20
      case false =>
        cases f3 : P_cc .ge (xs 1) 25
        case false =>
          exact P_pa17 xs hsw (by first | assumption | (simp only [P_cc_lt, P_cc_ge, P_cc_gt, P_cc_le, P_cc_eq, P_cc_ne, decide_eq_true_eq, decide_eq_false_iff_not, em1, e0, e1, e2, e3, e4, e11, e20, e24, e25, e100, e199, e1000, e1999] at *; omega)) (by first | assumption | (simp only [P_cc_lt, P_cc_ge, P_cc_gt, P_cc_le, P_cc_eq, P_cc_ne, decide_eq_true_eq, decide_eq_false_iff_not, em1, e0, e1, e2, e3, e4, e11, e20, e24, e25, e100, e199, e1000, e1999] at *; omega)) (by first | assumption | (simp only [P_cc_lt, P_cc_ge, P_cc_gt, P_cc_le, P_cc_eq, P_cc_ne, decide_eq_true_eq, decide_eq_false_iff_not, em1, e0, e1, e2, e3, e4, e11, e20, e24, e25, e100, e199, e1000, e1999] at *; omega)) (by first | assumption | (simp only [P_cc_lt, P_cc_ge, P_cc_gt, P_cc_le, P_cc_eq, P_cc_ne, decide_eq_true_eq, decide_eq_false_iff_not, em1, e0, e1, e2, e3, e4, e11, e20, e24, e25, e100, e199, e1000, e1999] at *; omega)) (by first | assumption | (simp only [P_cc_lt, P_cc_ge, P_cc_gt, P_cc_le, P_cc_eq, P_cc_ne, decide_eq_true_eq, decide_eq_false_iff_not, em1, e0, e1, e2, e3, e4, e11, e20, e24, e25, e100, e199, e1000, e1999] at *; omega)) (by first | assumption | (simp only [P_cc_lt, P_cc_ge, P_cc_gt, P_cc_le, P_cc_eq, P_cc_ne, decide_eq_true_eq, decide_eq_false_iff_not, em1, e0, e1, e2, e3, e4, e11, e20, e24, e25, e100, e199, e1000, e1999] at *; omega)) (by first | assumption | (simp only [P_cc_lt, P_cc_ge, P_cc_gt, P_cc_le, P_cc_eq, P_cc_ne, decide_eq_true_eq, decide_eq_false_iff_not, em1, e0, e1, e2, e3, e4, e11, e20, e24, e25, e100, e199, e1000, e1999] at *; omega)) (by first | assumption | (simp only [P_cc_lt, P_cc_ge, P_cc_gt, P_cc_le, P_cc_eq, P_cc_ne, decide_eq_true_eq, decide_eq_false_iff_not, em1, e0, e1, e2, e3, e4, e11, e20, e24, e25, e100, e199, e1000, e1999] at *; omega))
        case true =>
          cases f4 : P_cc .lt (xs 1) 100
          case false =>
            cases f5 : P_cc .gt (xs 1) 199
            case false =>
              exact P_pa16 xs hsw (by first | assumption | (simp only [P_cc_lt, P_cc_ge, P_cc_gt, P_cc_le, P_cc_eq, P_cc_ne, decide_eq_true_eq, decide_eq_false_iff_not, em1, e0, e1, e2, e3, e4, e11, e20, e24, e25, e100, e199, e1000, e1999] at *; omega)) (by first | assumption | (simp only [P_cc_lt, P_cc_ge, P_cc_gt, P_cc_le, P_cc_eq, P_cc_ne, decide_eq_true_eq, decide_eq_false_iff_not, em1, e0, e1, e2, e3, e4, e11, e20, e24, e25, e100, e199, e1000, e1999] at *; omega)) (by first | assumption | (simp only [P_cc_lt, P_cc_ge, P_cc_gt, P_cc_le, P_cc_eq, P_cc_ne, decide_eq_true_eq, decide_eq_false_iff_not, em1, e0, e1, e2, e3, e4, e11, e20, e24, e25, e100, e199, e1000, e1999] at *; omega)) (by first | assumption | (simp only [P_cc_lt, P_cc_ge, P_cc_gt, P_cc_le, P_cc_eq, P_cc_ne, decide_eq_true_eq, decide_eq_false_iff_not, em1, e0, e1, e2, e3, e4, e11, e20, e24, e25, e100, e199, e1000, e1999] at *; omega)) (by first | assumption | (simp only [P_cc_lt, P_cc_ge, P_cc_gt, P_cc_le, P_cc_eq, P_cc_ne, decide_eq_true_eq, decide_eq_false_iff_not, em1, e0, e1, e2, e3, e4, e11, e20, e24, e25, e100, e199, e1000, e1999] at *; omega)) (by first | assumption | (simp only [P_cc_lt, P_cc_ge, P_cc_gt, P_cc_le, P_cc_eq, P_cc_ne, decide_eq_true_eq, decide_eq_false_iff_not, em1, e0, e1, e2, e3, e4, e11, e20, e24, e25, e100, e199, e1000, e1999] at *; omega)) (by first | assumption | (simp only [P_cc_lt, P_cc_ge, P_cc_gt, P_cc_le, P_cc_eq, P_cc_ne, decide_eq_true_eq, decide_eq_false_iff_not, em1, e0, e1, e2, e3, e4, e11, e20, e24, e25, e100, e199, e1000, e1999] at *; omega)) (by first | assumption | (simp only [P_cc_lt, P_cc_ge, P_cc_gt, P_cc_le, P_cc_eq, P_cc_ne, decide_eq_true_eq, decide_eq_false_iff_not, em1, e0, e1, e2, e3, e4, e11, e20, e24, e25, e100, e199, e1000, e1999] at *; omega)) (by first | assumption | (simp only [P_cc_lt, P_cc_ge, P_cc_gt, P_cc_le, P_cc_eq, P_cc_ne, decide_eq_true_eq, decide_eq_false_iff_not, em1, e0, e1, e2, e3, e4, e11, e20, e24, e25, e100, e199, e1000, e1999] at *; omega)) (by first | assumption | (simp only [P_cc_lt, P_cc_ge, P_cc_gt, P_cc_le, P_cc_eq, P_cc_ne, decide_eq_true_eq, decide_eq_false_iff_not, em1, e0, e1, e2, e3, e4, e11, e20, e24, e25, e100, e199, e1000, e1999] at *; omega)) (by first | assumption | (simp only [P_cc_lt, P_cc_ge, P_cc_gt, P_cc_le, P_cc_eq, P_cc_ne, decide_eq_true_eq, decide_eq_false_iff_not, em1, e0, e1, e2, e3, e4, e11, e20, e24, e25, e100, e199, e1000, e1999] at *; omega)) (by first | assumption | (simp only [P_cc_lt, P_cc_ge, P_cc_gt, P_cc_le, P_cc_eq, P_cc_ne, decide_eq_true_eq, decide_eq_false_iff_not, em1, e0, e1, e2, e3, e4, e11, e20, e24, e25, e100, e199, e1000, e1999] at *; omega))
            case true =>
              cases f6 : P_cc .lt (xs 1) 1000
              case false =>
                cases f7 : P_cc .gt (xs 1) 1999
                case false =>
                  exact P_pa15 xs hsw (by first | assumption | (simp only [P_cc_lt, P_cc_ge, P_cc_gt, P_cc_le, P_cc_eq, P_cc_ne, decide_eq_true_eq, decide_eq_false_iff_not, em1, e0, e1, e2, e3, e4, e11, e20, e24, e25, e100, e199, e1000, e1999] at *; omega)) (by first | assumption | (simp only [P_cc_lt, P_cc_ge, P_cc_gt, P_cc_le, P_cc_eq, P_cc_ne, decide_eq_true_eq, decide_eq_false_iff_not, em1, e0, e1, e2, e3, e4, e11, e20, e24, e25, e100, e199, e1000, e1999] at *; omega)) (by first | assumption | (simp only [P_cc_lt, P_cc_ge, P_cc_gt, P_cc_le, P_cc_eq, P_cc_ne, decide_eq_true_eq, decide_eq_false_iff_not, em1, e0, e1, e2, e3, e4, e11, e20, e24, e25, e100, e199, e1000, e1999] at *; omega)) (by first | assumption | (simp only [P_cc_lt, P_cc_ge, P_cc_gt, P_cc_le, P_cc_eq, P_cc_ne, decide_eq_true_eq, decide_eq_false_iff_not, em1, e0, e1, e2, e3, e4, e11, e20, e24, e25, e100, e199, e1000, e1999] at *; omega)) (by first | assumption | (simp only [P_cc_lt, P_cc_ge, P_cc_gt, P_cc_le, P_cc_eq, P_cc_ne, decide_eq_true_eq, decide_eq_false_iff_not, em1, e0, e1, e2, e3, e4, e11, e20, e24, e25, e100, e199, e1000, e1999] at *; omega)) (by first | assumption | (simp only [P_cc_lt, P_cc_ge, P_cc_gt, P_cc_le, P_cc_eq, P_cc_ne, decide_eq_true_eq, decide_eq_false_iff_not, em1, e0, e1, e2, e3, e4, e11, e20, e24, e25, e100, e199, e1000, e1999] at *; omega)) (by first | assumption | (simp only [P_cc_lt, P_cc_ge, P_cc_gt, P_cc_le, P_cc_eq, P_cc_ne, decide_eq_true_eq, decide_eq_false_iff_not, em1, e0, e1, e2, e3, e4, e11, e20, e24, e25, e100, e199, e1000, e1999] at *; omega)) (by first | assumption | (simp only [P_cc_lt, P_cc_ge, P_cc_gt, P_cc_le, P_cc_eq, P_cc_ne, decide_eq_true_eq, decide_eq_false_iff_not, em1, e0, e1, e2, e3, e4, e11, e20, e24, e25, e100, e199, e1000, e1999] at *; omega)) (by first | assumption | (simp only [P_cc_lt, P_cc_ge, P_cc_gt, P_cc_le, P_cc_eq, P_cc_ne, decide_eq_true_eq, decide_eq_false_iff_not, em1, e0, e1, e2, e3, e4, e11, e20, e24, e25, e100, e199, e1000, e1999] at *; omega)) (by first | assumption | (simp only [P_cc_lt, P_cc_ge, P_cc_gt, P_cc_le, P_cc_eq, P_cc_ne, decide_eq_true_eq, decide_eq_false_iff_not, em1, e0, e1, e2, e3, e4, e11, e20, e24, e25, e100, e199, e1000, e1999] at *; omega)) (by first | assumption | (simp only [P_cc_lt, P_cc_ge, P_cc_gt, P_cc_le, P_cc_eq, P_cc_ne, decide_eq_true_eq, decide_eq_false_iff_not, em1, e0, e1, e2, e3, e4, e11, e20, e24, e25, e100, e199, e1000, e1999] at *; omega)) (by first | assumption | (simp only [P_cc_lt, P_cc_ge, P_cc_gt, P_cc_le, P_cc_eq, P_cc_ne, decide_eq_true_eq, decide_eq_false_iff_not, em1, e0, e1, e2, e3, e4, e11, e20, e24, e25, e100, e199, e1000, e1999] at *; omega)) (by first | assumption | (simp only [P_cc_lt, P_cc_ge, P_cc_gt, P_cc_le, P_cc_eq, P_cc_ne, decide_eq_true_eq, decide_eq_false_iff_not, em1, e0, e1, e2, e3, e4, e11, e20, e24, e25, e100, e199, e1000, e1999] at *; omega)) (by first | assumption | (simp only [P_cc_lt, P_cc_ge, P_cc_gt, P_cc_le, P_cc_eq, P_cc_ne, decide_eq_true_eq, decide_eq_false_iff_not, em1, e0, e1, e2, e3, e4, e11, e20, e24, e25, e100, e199, e1000, e1999] at *; omega)) (by first | assumption | (simp only [P_cc_lt, P_cc_ge, P_cc_gt, P_cc_le, P_cc_eq, P_cc_ne, decide_eq_true_eq, decide_eq_false_iff_not, em1, e0, e1, e2, e3, e4, e11, e20, e24, e25, e100, e199, e1000, e1999] at *; omega)) (by first | assumption | (simp only [P_cc_lt, P_cc_ge, P_cc_gt, P_cc_le, P_cc_eq, P_cc_ne, decide_eq_true_eq, decide_eq_false_iff_not, em1, e0, e1, e2, e3, e4, e11, e20, e24, e25, e100, e199, e1000, e1999] at *; omega))
                case true =>
                  exact P_pa14 xs hsw (by first | assumption | (simp only [P_cc_lt, P_cc_ge, P_cc_gt, P_cc_le, P_cc_eq, P_cc_ne, decide_eq_true_eq, decide_eq_false_iff_not, em1, e0, e1, e2, e3, e4, e11, e20, e24, e25, e100, e199, e1000, e1999] at *; omega)) (by first | assumption | (simp only [P_cc_lt, P_cc_ge, P_cc_gt, P_cc_le, P_cc_eq, P_cc_ne, decide_eq_true_eq, decide_eq_false_iff_not, em1, e0, e1, e2, e3, e4, e11, e20, e24, e25, e100, e199, e1000, e1999] at *; omega)) (by first | assumption | (simp only [P_cc_lt, P_cc_ge, P_cc_gt, P_cc_le, P_cc_eq, P_cc_ne, decide_eq_true_eq, decide_eq_false_iff_not, em1, e0, e1, e2, e3, e4, e11, e20, e24, e25, e100, e199, e1000, e1999] at *; omega)) (by first | assumption | (simp only [P_cc_lt, P_cc_ge, P_cc_gt, P_cc_le, P_cc_eq, P_cc_ne, decide_eq_true_eq, decide_eq_false_iff_not, em1, e0, e1, e2, e3, e4, e11, e20, e24, e25, e100, e199, e1000, e1999] at *; omega)) (by first | assumption | (simp only [P_cc_lt, P_cc_ge, P_cc_gt, P_cc_le, P_cc_eq, P_cc_ne, decide_eq_true_eq, decide_eq_false_iff_not, em1, e0, e1, e2, e3, e4, e11, e20, e24, e25, e100, e199, e1000, e1999] at *; omega)) (by first | assumption | (simp only [P_cc_lt, P_cc_ge, P_cc_gt, P_cc_le, P_cc_eq, P_cc_ne, decide_eq_true_eq, decide_eq_false_iff_not, em1, e0, e1, e2, e3, e4, e11, e20, e24, e25, e100, e199, e1000, e1999] at *; omega)) (by first | assumption | (simp only [P_cc_lt, P_cc_ge, P_cc_gt, P_cc_le, P_cc_eq, P_cc_ne, decide_eq_true_eq, decide_eq_false_iff_not, em1, e0, e1, e2, e3, e4, e11, e20, e24, e25, e100, e199, e1000, e1999] at *; omega)) (by first | assumption | (simp only [P_cc_lt, P_cc_ge, P_cc_gt, P_cc_le, P_cc_eq, P_cc_ne, decide_eq_true_eq, decide_eq_false_iff_not, em1, e0, e1, e2, e3, e4, e11, e20, e24, e25, e100, e199, e1000, e1999] at *; omega)) (by first | assumption | (simp only [P_cc_lt, P_cc_ge, P_cc_gt, P_cc_le, P_cc_eq, P_cc_ne, decide_eq_true_eq, decide_eq_false_iff_not, em1, e0, e1, e2, e3, e4, e11, e20, e24, e25, e100, e199, e1000, e1999] at *; omega)) (by first | assumption | (simp only [P_cc_lt, P_cc_ge, P_cc_gt, P_cc_le, P_cc_eq, P_cc_ne, decide_eq_true_eq, decide_eq_false_iff_not, em1, e0, e1, e2, e3, e4, e11, e20, e24, e25, e100, e199, e1000, e1999] at *; omega)) (by first | assumption | (simp only [P_cc_lt, P_cc_ge, P_cc_gt, P_cc_le, P_cc_eq, P_cc_ne, decide_eq_true_eq, decide_eq_false_iff_not, em1, e0, e1, e2, e3, e4, e11, e20, e24, e25, e100, e199, e1000, e1999] at *; omega)) (by first | assumption | (simp only [P_cc_lt, P_cc_ge, P_cc_gt, P_cc_le, P_cc_eq, P_cc_ne, decide_eq_true_eq, decide_eq_false_iff_not, em1, e0, e1, e2, e3, e4, e11, e20, e24, e25, e100, e199, e1000, e1999] at *; omega)) (by first | assumption | (simp only [P_cc_lt, P_cc_ge, P_cc_gt, P_cc_le, P_cc_eq, P_cc_ne, decide_eq_true_eq, decide_eq_false_iff_not, em1, e0, e1, e2, e3, e4, e11, e20, e24, e25, e100, e199, e1000, e1999] at *; omega)) (by first | assumption | (simp only [P_cc_lt, P_cc_ge, P_cc_gt, P_cc_le, P_cc_eq, P_cc_ne, decide_eq_true_eq, decide_eq_false_iff_not, em1, e0, e1, e2, e3, e4, e11, e20, e24, e25, e100, e199, e1000, e1999] at *; omega)) (by first | assumption | (simp only [P_cc_lt, P_cc_ge, P_cc_gt, P_cc_le, P_cc_eq, P_cc_ne, decide_eq_true_eq, decide_eq_false_iff_not, em1, e0, e1, e2, e3, e4, e11, e20, e24, e25, e100, e199, e1000, e1999] at *; omega)) (by first | assumption | (simp only [P_cc_lt, P_cc_ge, P_cc_gt, P_cc_le, P_cc_eq, P_cc_ne, decide_eq_true_eq, decide_eq_false_iff_not, em1, e0, e1, e2, e3, e4, e11, e20, e24, e25, e100, e199, e1000, e1999] at *; omega))
              case true =>
                exact P_pa13 xs hsw (by first | assumption | (simp only [P_cc_lt, P_cc_ge, P_cc_gt, P_cc_le, P_cc_eq, P_cc_ne, decide_eq_true_eq, decide_eq_false_iff_not, em1, e0, e1, e2, e3, e4, e11, e20, e24, e25, e100, e199, e1000, e1999] at *; omega)) (by first | assumption | (simp only [P_cc_lt, P_cc_ge, P_cc_gt, P_cc_le, P_cc_eq, P_cc_ne, decide_eq_true_eq, decide_eq_false_iff_not, em1, e0, e1, e2, e3, e4, e11, e20, e24, e25, e100, e199, e1000, e1999] at *; omega)) (by first | assumption | (simp only [P_cc_lt, P_cc_ge, P_cc_gt, P_cc_le, P_cc_eq, P_cc_ne, decide_eq_true_eq, decide_eq_false_iff_not, em1, e0, e1, e2, e3, e4, e11, e20, e24, e25, e100, e199, e1000, e1999] at *; omega)) (by first | assumption | (simp only [P_cc_lt, P_cc_ge, P_cc_gt, P_cc_le, P_cc_eq, P_cc_ne, decide_eq_true_eq, decide_eq_false_iff_not, em1, e0, e1, e2, e3, e4, e11, e20, e24, e25, e100, e199, e1000, e1999] at *; omega)) (by first | assumption | (simp only [P_cc_lt, P_cc_ge, P_cc_gt, P_cc_le, P_cc_eq, P_cc_ne, decide_eq_true_eq, decide_eq_false_iff_not, em1, e0, e1, e2, e3, e4, e11, e20, e24, e25, e100, e199, e1000, e1999] at *; omega)) (by first | assumption | (simp only [P_cc_lt, P_cc_ge, P_cc_gt, P_cc_le, P_cc_eq, P_cc_ne, decide_eq_true_eq, decide_eq_false_iff_not, em1, e0, e1, e2, e3, e4, e11, e20, e24, e25, e100, e199, e1000, e1999] at *; omega)) (by first | assumption | (simp only [P_cc_lt, P_cc_ge, P_cc_gt, P_cc_le, P_cc_eq, P_cc_ne, decide_eq_true_eq, decide_eq_false_iff_not, em1, e0, e1, e2, e3, e4, e11, e20, e24, e25, e100, e199, e1000, e1999] at *; omega)) (by first | assumption | (simp only [P_cc_lt, P_cc_ge, P_cc_gt, P_cc_le, P_cc_eq, P_cc_ne, decide_eq_true_eq, decide_eq_false_iff_not, em1, e0, e1, e2, e3, e4, e11, e20, e24, e25, e100, e199, e1000, e1999] at *; omega)) (by first | assumption | (simp only [P_cc_lt, P_cc_ge, P_cc_gt, P_cc_le, P_cc_eq, P_cc_ne, decide_eq_true_eq, decide_eq_false_iff_not, em1, e0, e1, e2, e3, e4, e11, e20, e24, e25, e100, e199, e1000, e1999] at *; omega)) (by first | assumption | (simp only [P_cc_lt, P_cc_ge, P_cc_gt, P_cc_le, P_cc_eq, P_cc_ne, decide_eq_true_eq, decide_eq_false_iff_not, em1, e0, e1, e2, e3, e4, e11, e20, e24, e25, e100, e199, e1000, e1999] at *; omega)) (by first | assumption | (simp only [P_cc_lt, P_cc_ge, P_cc_gt, P_cc_le, P_cc_eq, P_cc_ne, decide_eq_true_eq, decide_eq_false_iff_not, em1, e0, e1, e2, e3, e4, e11, e20, e24, e25, e100, e199, e1000, e1999] at *; omega)) (by first | assumption | (simp only [P_cc_lt, P_cc_ge, P_cc_gt, P_cc_le, P_cc_eq, P_cc_ne, decide_eq_true_eq, decide_eq_false_iff_not, em1, e0, e1, e2, e3, e4, e11, e20, e24, e25, e100, e199, e1000, e1999] at *; omega)) (by first | assumption | (simp only [P_cc_lt, P_cc_ge, P_cc_gt, P_cc_le, P_cc_eq, P_cc_ne, decide_eq_true_eq, decide_eq_false_iff_not, em1, e0, e1, e2, e3, e4, e11, e20, e24, e25, e100, e199, e1000, e1999] at *; omega)) (by first | assumption | (simp only [P_cc_lt, P_cc_ge, P_cc_gt, P_cc_le, P_cc_eq, P_cc_ne, decide_eq_true_eq, decide_eq_false_iff_not, em1, e0, e1, e2, e3, e4, e11, e20, e24, e25, e100, e199, e1000, e1999] at *; omega))
          case true =>
            exact P_pa12 xs hsw (by first | assumption | (simp only [P_cc_lt, P_cc_ge, P_cc_gt, P_cc_le, P_cc_eq, P_cc_ne, decide_eq_true_eq, decide_eq_false_iff_not, em1, e0, e1, e2, e3, e4, e11, e20, e24, e25, e100, e199, e1000, e1999] at *; omega)) (by first | assumption | (simp only [P_cc_lt, P_cc_ge, P_cc_gt, P_cc_le, P_cc_eq, P_cc_ne, decide_eq_true_eq, decide_eq_false_iff_not, em1, e0, e1, e2, e3, e4, e11, e20, e24, e25, e100, e199, e1000, e1999] at *; omega)) (by first | assumption | (simp only [P_cc_lt, P_cc_ge, P_cc_gt, P_cc_le, P_cc_eq, P_cc_ne, decide_eq_true_eq, decide_eq_false_iff_not, em1, e0, e1, e2, e3, e4, e11, e20, e24, e25, e100, e199, e1000, e1999] at *; omega)) (by first | assumption | (simp only [P_cc_lt, P_cc_ge, P_cc_gt, P_cc_le, P_cc_eq, P_cc_ne, decide_eq_true_eq, decide_eq_false_iff_not, em1, e0, e1, e2, e3, e4, e11, e20, e24, e25, e100, e199, e1000, e1999] at *; omega)) (by first | assumption | (simp only [P_cc_lt, P_cc_ge, P_cc_gt, P_cc_le, P_cc_eq, P_cc_ne, decide_eq_true_eq, decide_eq_false_iff_not, em1, e0, e1, e2, e3, e4, e11, e20, e24, e25, e100, e199, e1000, e1999] at *; omega)) (by first | assumption | (simp only [P_cc_lt, P_cc_ge, P_cc_gt, P_cc_le, P_cc_eq, P_cc_ne, decide_eq_true_eq, decide_eq_false_iff_not, em1, e0, e1, e2, e3, e4, e11, e20, e24, e25, e100, e199, e1000, e1999] at *; omega)) (by first | assumption | (simp only [P_cc_lt, P_cc_ge, P_cc_gt, P_cc_le, P_cc_eq, P_cc_ne, decide_eq_true_eq, decide_eq_false_iff_not, em1, e0, e1, e2, e3, e4, e11, e20, e24, e25, e100, e199, e1000, e1999] at *; omega)) (by first | assumption | (simp only [P_cc_lt, P_cc_ge, P_cc_gt, P_cc_le, P_cc_eq, P_cc_ne, decide_eq_true_eq, decide_eq_false_iff_not, em1, e0, e1, e2, e3, e4, e11, e20, e24, e25, e100, e199, e1000, e1999] at *; omega)) (by first | assumption | (simp only [P_cc_lt, P_cc_ge, P_cc_gt, P_cc_le, P_cc_eq, P_cc_ne, decide_eq_true_eq, decide_eq_false_iff_not, em1, e0, e1, e2, e3, e4, e11, e20, e24, e25, e100, e199, e1000, e1999] at *; omega)) (by first | assumption | (simp only [P_cc_lt, P_cc_ge, P_cc_gt, P_cc_le, P_cc_eq, P_cc_ne, decide_eq_true_eq, decide_eq_false_iff_not, em1, e0, e1, e2, e3, e4, e11, e20, e24, e25, e100, e199, e1000, e1999] at *; omega)) (by first | assumption | (simp only [P_cc_lt, P_cc_ge, P_cc_gt, P_cc_le, P_cc_eq, P_cc_ne, decide_eq_true_eq, decide_eq_false_iff_not, em1, e0, e1, e2, e3, e4, e11, e20, e24, e25, e100, e199, e1000, e1999] at *; omega)) (by first | assumption | (simp only [P_cc_lt, P_cc_ge, P_cc_gt, P_cc_le, P_cc_eq, P_cc_ne, decide_eq_true_eq, decide_eq_false_iff_not, em1, e0, e1, e2, e3, e4, e11, e20, e24, e25, e100, e199, e1000, e1999] at *; omega))
      case true =>
        exact P_pa11 xs hsw (by first | assumption | (simp only [P_cc_lt, P_cc_ge, P_cc_gt, P_cc_le, P_cc_eq, P_cc_ne, decide_eq_true_eq, decide_eq_false_iff_not, em1, e0, e1, e2, e3, e4, e11, e20, e24, e25, e100, e199, e1000, e1999] at *; omega)) (by first | assumption | (simp only [P_cc_lt, P_cc_ge, P_cc_gt, P_cc_le, P_cc_eq, P_cc_ne, decide_eq_true_eq, decide_eq_false_iff_not, em1, e0, e1, e2, e3, e4, e11, e20, e24, e25, e100, e199, e1000, e1999] at *; omega)) (by first | assumption | (simp only [P_cc_lt, P_cc_ge, P_cc_gt, P_cc_le, P_cc_eq, P_cc_ne, decide_eq_true_eq, decide_eq_false_iff_not, em1, e0, e1, e2, e3, e4, e11, e20, e24, e25, e100, e199, e1000, e1999] at *; omega)) (by first | assumption | (simp only [P_cc_lt, P_cc_ge, P_cc_gt, P_cc_le, P_cc_eq, P_cc_ne, decide_eq_true_eq, decide_eq_false_iff_not, em1, e0, e1, e2, e3, e4, e11, e20, e24, e25, e100, e199, e1000, e1999] at *; omega)) (by first | assumption | (simp only [P_cc_lt, P_cc_ge, P_cc_gt, P_cc_le, P_cc_eq, P_cc_ne, decide_eq_true_eq, decide_eq_false_iff_not, em1, e0, e1, e2, e3, e4, e11, e20, e24, e25, e100, e199, e1000, e1999] at *; omega)) (by first | assumption | (simp only [P_cc_lt, P_cc_ge, P_cc_gt, P_cc_le, P_cc_eq, P_cc_ne, decide_eq_true_eq, decide_eq_false_iff_not, em1, e0, e1, e2, e3, e4, e11, e20, e24, e25, e100, e199, e1000, e1999] at *; omega)) (by first | assumption | (simp only [P_cc_lt, P_cc_ge, P_cc_gt, P_cc_le, P_cc_eq, P_cc_ne, decide_eq_true_eq, decide_eq_false_iff_not, em1, e0, e1, e2, e3, e4, e11, e20, e24, e25, e100, e199, e1000, e1999] at *; omega)) (by first | assumption | (simp only [P_cc_lt, P_cc_ge, P_cc_gt, P_cc_le, P_cc_eq, P_cc_ne, decide_eq_true_eq, decide_eq_false_iff_not, em1, e0, e1, e2, e3, e4, e11, e20, e24, e25, e100, e199, e1000, e1999] at *; omega)) (by first | assumption | (simp only [P_cc_lt, P_cc_ge, P_cc_gt, P_cc_le, P_cc_eq, P_cc_ne, decide_eq_true_eq, decide_eq_false_iff_not, em1, e0, e1, e2, e3, e4, e11, e20, e24, e25, e100, e199, e1000, e1999] at *; omega)) (by first | assumption | (simp only [P_cc_lt, P_cc_ge, P_cc_gt, P_cc_le, P_cc_eq, P_cc_ne, decide_eq_true_eq, decide_eq_false_iff_not, em1, e0, e1, e2, e3, e4, e11, e20, e24, e25, e100, e199, e1000, e1999] at *; omega))
    case true =>
      exact P_pa10 xs hsw (by first | assumption | (simp only [P_cc_lt, P_cc_ge, P_cc_gt, P_cc_le, P_cc_eq, P_cc_ne, decide_eq_true_eq, decide_eq_false_iff_not, em1, e0, e1, e2, e3, e4, e11, e20, e24, e25, e100, e199, e1000, e1999] at *; omega)) (by first | assumption | (simp only [P_cc_lt, P_cc_ge, P_cc_gt, P_cc_le, P_cc_eq, P_cc_ne, decide_eq_true_eq, decide_eq_false_iff_not, em1, e0, e1, e2, e3, e4, e11, e20, e24, e25, e100, e199, e1000, e1999] at *; omega)) (by first | assumption | (simp only [P_cc_lt, P_cc_ge, P_cc_gt, P_cc_le, P_cc_eq, P_cc_ne, decide_eq_true_eq, decide_eq_false_iff_not, em1, e0, e1, e2, e3, e4, e11, e20, e24, e25, e100, e199, e1000, e1999] at *; omega)) (by first | assumption | (simp only [P_cc_lt, P_cc_ge, P_cc_gt, P_cc_le, P_cc_eq, P_cc_ne, decide_eq_true_eq, decide_eq_false_iff_not, em1, e0, e1, e2, e3, e4, e11, e20, e24, e25, e100, e199, e1000, e1999] at *; omega))
  case true =>
    exact P_pa9 xs hsw (by first | assumption | (simp only [P_cc_lt, P_cc_ge, P_cc_gt, P_cc_le, P_cc_eq, P_cc_ne, decide_eq_true_eq, decide_eq_false_iff_not, em1, e0, e1, e2, e3, e4, e11, e20, e24, e25, e100, e199, e1000, e1999] at *; omega)) (by first | assumption | (simp only [P_cc_lt, P_cc_ge, P_cc_gt, P_cc_le, P_cc_eq, P_cc_ne, decide_eq_true_eq, decide_eq_false_iff_not, em1, e0, e1, e2, e3, e4, e11, e20, e24, e25, e100, e199, e1000, e1999] at *; omega)) (by first | assumption | (simp only [P_cc_lt, P_cc_ge, P_cc_gt, P_cc_le, P_cc_eq, P_cc_ne, decide_eq_true_eq, decide_eq_false_iff_not, em1, e0, e1, e2, e3, e4, e11, e20, e24, e25, e100, e199, e1000, e1999] at *; omega)) (by first | assumption | (simp only [P_cc_lt, P_cc_ge, P_cc_gt, P_cc_le, P_cc_eq, P_cc_ne, decide_eq_true_eq, decide_eq_false_iff_not, em1, e0, e1, e2, e3, e4, e11, e20, e24, e25, e100, e199, e1000, e1999] at *; omega)) (by first | assumption | (simp only [P_cc_lt, P_cc_ge, P_cc_gt, P_cc_le, P_cc_eq, P_cc_ne, decide_eq_true_eq, decide_eq_false_iff_not, em1, e0, e1, e2, e3, e4, e11, e20, e24, e25, e100, e199, e1000, e1999] at *; omega)) (by first | assumption | (simp only [P_cc_lt, P_cc_ge, P_cc_gt, P_cc_le, P_cc_eq, P_cc_ne, decide_eq_true_eq, decide_eq_false_iff_not, em1, e0, e1, e2, e3, e4, e11, e20, e24, e25, e100, e199, e1000, e1999] at *; omega)) (by first | assumption | (simp only [P_cc_lt, P_cc_ge, P_cc_gt, P_cc_le, P_cc_eq, P_cc_ne, decide_eq_true_eq, decide_eq_false_iff_not, em1, e0, e1, e2, e3, e4, e11, e20, e24, e25, e100, e199, e1000, e1999] at *; omega)) (by first | assumption | (simp only [P_cc_lt, P_cc_ge, P_cc_gt, P_cc_le, P_cc_eq, P_cc_ne, decide_eq_true_eq, decide_eq_false_iff_not, em1, e0, e1, e2, e3, e4, e11, e20, e24, e25, e100, e199, e1000, e1999] at *; omega))
theorem P_sv5 (xs : Nat → Int32) (hsw : xs 0 &&& 31 = 5) : P_wp P_Y0 200 0 (28, [.ref 0, .ref 2, .ref 47, .ref 63, .ref 64, .int 0, P_un, P_un, P_un], [], (P_hv132 xs 5)) P_okR := by
  exact P_pa18 xs hsw
theorem P_sv6 (xs : Nat → Int32) (hsw : xs 0 &&& 31 = 6) : P_wp P_Y0 200 0 (28, [.ref 0, .ref 2, .ref 47, .ref 63, .ref 64, .int 0, P_un, P_un, P_un], [], (P_hv132 xs 5)) P_okR := by
  exact P_pa19 xs hsw
theorem P_sv7 (xs : Nat → Int32) (hsw : xs 0 &&& 31 = 7) : P_wp P_Y0 200 0 (28, [.ref 0, .ref 2, .ref 47, .ref 63, .ref 64, .int 0, P_un, P_un, P_un], [], (P_hv132 xs 5)) P_okR := by
  exact P_pa20 xs hsw
theorem P_sv8 (xs : Nat → Int32) (hsw : xs 0 &&& 31 = 8) : P_wp P_Y0 200 0 (28, [.ref 0, .ref 2, .ref 47, .ref 63, .ref 64, .int 0, P_un, P_un, P_un], [], (P_hv132 xs 5)) P_okR := by
  have em1 : ((-1) : Int32).toInt = (-1) := by decide
  have e0 : (0 : Int32).toInt = 0 := by decide
  have e1 : (1 : Int32).toInt = 1 := by decide
  have e2 : (2 : Int32).toInt = 2 := by decide
  have e3 : (3 : Int32).toInt = 3 := by decide
  have e4 : (4 : Int32).toInt = 4 := by decide
  have e11 : (11 : Int32).toInt = 11 := by decide
  have e20 : (20 : Int32).toInt = 20 := by decide
  have e24 : (24 : Int32).toInt = 24 := by decide
  have e25 : (25 : Int32).toInt = 25 := by decide
  have e100 : (100 : Int32).toInt = 100 := by decide
  have e199 : (199 : Int32).toInt = 199 := by decide
  have e1000 : (1000 : Int32).toInt = 1000 := by decide
  have e1999 : (1999 : Int32).toInt = 1999 := by decide
  cases f0 : P_cc .lt (xs 1) 0
  case false =>
    cases f1 : P_cc .le (xs 1) 4
    case false =>
      exact P_pa25 xs hsw (by first | assumption | (simp only [P_cc_lt, P_cc_ge, P_cc_gt, P_cc_le, P_cc_eq, P_cc_ne, decide_eq_true_eq, decide_eq_false_iff_not, em1, e0, e1, e2, e3, e4, e11, e20, e24, e25, e100, e199, e1000, e1999] at *; omega)) (by first | assumption | (simp only [P_cc_lt, P_cc_ge, P_cc_gt, P_cc_le, P_cc_eq, P_cc_ne, decide_eq_true_eq, decide_eq_false_iff_not, em1, e0, e1, e2, e3, e4, e11, e20, e24, e25, e100, e199, e1000, e1999] at *; omega)) (by first | assumption | (simp only [P_cc_lt, P_cc_ge, P_cc_gt, P_cc_le, P_cc_eq, P_cc_ne, decide_eq_true_eq, decide_eq_false_iff_not, em1, e0, e1, e2, e3, e4, e11, e20, e24, e25, e100, e199, e1000, e1999] at *; omega)) (by first | assumption | (simp only [P_cc_lt, P_cc_ge, P_cc_gt, P_cc_le, P_cc_eq, P_cc_ne, decide_eq_true_eq, decide_eq_false_iff_not, em1, e0, e1, e2, e3, e4, e11, e20, e24, e25, e100, e199, e1000, e1999] at *; omega))
    case true =>
      cases f2 : P_cc .ne (xs 1) 0
      case false =>
        exact P_pa24 xs hsw (by first | assumption | (simp only [P_cc_lt, P_cc_ge, P_cc_gt, P_cc_le, P_cc_eq, P_cc_ne, decide_eq_true_eq, decide_eq_false_iff_not, em1, e0, e1, e2, e3, e4, e11, e20, e24, e25, e100, e199, e1000, e1999] at *; omega)) (by first | assumption | (simp only [P_cc_lt, P_cc_ge, P_cc_gt, P_cc_le, P_cc_eq, P_cc_ne, decide_eq_true_eq, decide_eq_false_iff_not, em1, e0, e1, e2, e3, e4, e11, e20, e24, e25, e100, e199, e1000, e1999] at *; omega)) (by first | assumption | (simp only [P_cc_lt, P_cc_ge, P_cc_gt, P_cc_le, P_cc_eq, P_cc_ne, decide_eq_true_eq, decide_eq_false_iff_not, em1, e0, e1, e2, e3, e4, e11, e20, e24, e25, e100, e199, e1000, e1999] at *; omega)) (by first | assumption | (simp only [P_cc_lt, P_cc_ge, P_cc_gt, P_cc_le, P_cc_eq, P_cc_ne, decide_eq_true_eq, decide_eq_false_iff_not, em1, e0, e1, e2, e3, e4, e11, e20, e24, e25, e100, e199, e1000, e1999] at *; omega)) (by first | assumption | (simp only [P_cc_lt, P_cc_ge, P_cc_gt, P_cc_le, P_cc_eq, P_cc_ne, decide_eq_true_eq, decide_eq_false_iff_not, em1, e0, e1, e2, e3, e4, e11, e20, e24, e25, e100, e199, e1000, e1999] at *; omega)) (by first | assumption | (simp only [P_cc_lt, P_cc_ge, P_cc_gt, P_cc_le, P_cc_eq, P_cc_ne, decide_eq_true_eq, decide_eq_false_iff_not, em1, e0, e1, e2, e3, e4, e11, e20, e24, e25, e100, e199, e1000, e1999] at *; omega)) (by first | assumption | (simp only [P_cc_lt, P_cc_ge, P_cc_gt, P_cc_le, P_cc_eq, P_cc_ne, decide_eq_true_eq, decide_eq_false_iff_not, em1, e0, e1, e2, e3, e4, e11, e20, e24, e25, e100, e199, e1000, e1999] at *; omega))
      case true =>
        cases f3 : P_cc .ne (xs 1) 1
        case false =>
          exact P_pa23 xs hsw (by first | assumption | (simp only [P_cc_lt, P_cc_ge, P_cc_gt, P_cc_le, P_cc_eq, P_cc_ne, decide_eq_true_eq, decide_eq_false_iff_not, em1, e0, e1, e2, e3, e4, e11, e20, e24, e25, e100, e199, e1000, e1999] at *; omega)) (by first | assumption | (simp only [P_cc_lt, P_cc_ge, P_cc_gt, P_cc_le, P_cc_eq, P_cc_ne, decide_eq_true_eq, decide_eq_false_iff_not, em1, e0, e1, e2, e3, e4, e11, e20, e24, e25, e100, e199, e1000, e1999] at *; omega)) (by first | assumption | (simp only [P_cc_lt, P_cc_ge, P_cc_gt, P_cc_le, P_cc_eq, P_cc_ne, decide_eq_true_eq, decide_eq_false_iff_not, em1, e0, e1, e2, e3, e4, e11, e20, e24, e25, e100, e199, e1000, e1999] at *; omega)) (by first | assumption | (simp only [P_cc_lt, P_cc_ge, P_cc_gt, P_cc_le, P_cc_eq, P_cc_ne, decide_eq_true_eq, decide_eq_false_iff_not, em1, e0, e1, e2, e3, e4, e11, e20, e24, e25, e100, e199, e1000, e1999] at *; omega)) (by first | assumption | (simp only [P_cc_lt, P_cc_ge, P_cc_gt, P_cc_le, P_cc_eq, P_cc_ne, decide_eq_true_eq, decide_eq_false_iff_not, em1, e0, e1, e2, e3, e4, e11, e20, e24, e25, e100, e199, e1000, e1999] at *; omega)) (by first | assumption | (simp only [P_cc_lt, P_cc_ge, P_cc_gt, P_cc_le, P_cc_eq, P_cc_ne, decide_eq_true_eq, decide_eq_false_iff_not, em1, e0, e1, e2, e3, e4, e11, e20, e24, e25, e100, e199, e1000, e1999] at *; omega)) (by first | assumption | (simp only [P_cc_lt, P_cc_ge, P_cc_gt, P_cc_le, P_cc_eq, P_cc_ne, decide_eq_true_eq, decide_eq_false_iff_not, em1, e0, e1, e2, e3, e4, e11, e20, e24, e25, e100, e199, e1000, e1999] at *; omega)) (by first | assumption | (simp only [P_cc_lt, P_cc_ge, P_cc_gt, P_cc_le, P_cc_eq, P_cc_ne, decide_eq_true_eq, decide_eq_false_iff_not, em1, e0, e1, e2, e3, e4, e11, e20, e24, e25, e100, e199, e1000, e1999] at *; omega))
        case true =>
          exact P_pa22 xs hsw (by first | assumption | (simp only [P_cc_lt, P_cc_ge, P_cc_gt, P_cc_le, P_cc_eq, P_cc_ne, decide_eq_true_eq, decide_eq_false_iff_not, em1, e0, e1, e2, e3, e4, e11, e20, e24, e25, e100, e199, e1000, e1999] at *; omega)) (by first | assumption | (simp only [P_cc_lt, P_cc_ge, P_cc_gt, P_cc_le, P_cc_eq, P_cc_ne, decide_eq_true_eq, decide_eq_false_iff_not, em1, e0, e1, e2, e3, e4, e11, e20, e24, e25, e100, e199, e1000, e1999] at *; omega)) (by first | assumption | (simp only [P_cc_lt, P_cc_ge, P_cc_gt, P_cc_le, P_cc_eq, P_cc_ne, decide_eq_true_eq, decide_eq_false_iff_not, em1, e0, e1, e2, e3, e4, e11, e20, e24, e25, e100, e199, e1000, e1999] at *; omega)) (by first | assumption | (simp only [P_cc_lt, P_cc_ge, P_cc_gt, P_cc_le, P_cc_eq, P_cc_ne, decide_eq_true_eq, decide_eq_false_iff_not, em1, e0, e1, e2, e3, e4, e11, e20, e24, e25, e100, e199, e1000, e1999] at *; omega)) (by first | assumption | (simp only [P_cc_lt, P_cc_ge, P_cc_gt, P_cc_le, P_cc_eq, P_cc_ne, decide_eq_true_eq, decide_eq_false_iff_not, em1, e0, e1, e2, e3, e4, e11, e20, e24, e25, e100, e199, e1000, e1999] at *; omega)) (by first | assumption | (simp only [P_cc_lt, P_cc_ge, P_cc_gt, P_cc_le, P_cc_eq, P_cc_ne, decide_eq_true_eq, decide_eq_false_iff_not, em1, e0, e1, e2, e3, e4, e11, e20, e24, e25, e100, e199, e1000, e1999] at *; omega)) (by first | assumption | (simp only [P_cc_lt, P_cc_ge, P_cc_gt, P_cc_le, P_cc_eq, P_cc_ne, decide_eq_true_eq, decide_eq_false_iff_not, em1, e0, e1, e2, e3, e4, e11, e20, e24, e25, e100, e199, e1000, e1999] at *; omega))
  case true =>
    exact P_pa21 xs hsw (by first | assumption | (simp only [P_cc_lt, P_cc_ge, P_cc_gt, P_cc_le, P_cc_eq, P_cc_ne, decide_eq_true_eq, decide_eq_false_iff_not, em1, e0, e1, e2, e3, e4, e11, e20, e24, e25, e100, e199, e1000, e1999] at *; omega)) (by first | assumption | (simp only [P_cc_lt, P_cc_ge, P_cc_gt, P_cc_le, P_cc_eq, P_cc_ne, decide_eq_true_eq, decide_eq_false_iff_not, em1, e0, e1, e2, e3, e4, e11, e20, e24, e25, e100, e199, e1000, e1999] at *; omega))
theorem P_sv9 (xs : Nat → Int32) (hsw : xs 0 &&& 31 = 9) : P_wp P_Y0 200 0 (28, [.ref 0, .ref 2, .ref 47, .ref 63, .ref 64, .int 0, P_un, P_un, P_un], [], (P_hv132 xs 5)) P_okR := by
  exact P_pa26 xs hsw
theorem P_sv10 (xs : Nat → Int32) (hsw : xs 0 &&& 31 = 10) : P_wp P_Y0 200 0 (28, [.ref 0, .ref 2, .ref 47, .ref 63, .ref 64, .int 0, P_un, P_un, P_un], [], (P_hv132 xs 5)) P_okR := by
  exact P_pa27 xs hsw
theorem P_sv11 (xs : Nat → Int32) (hsw : xs 0 &&& 31 = 11) : P_wp P_Y0 200 0 (28, [.ref 0, .ref 2, .ref 47, .ref 63, .ref 64, .int 0, P_un, P_un, P_un], [], (P_hv132 xs 5)) P_okR := by
  exact P_pa28 xs hsw
theorem P_sv12 (xs : Nat → Int32) (hsw : xs 0 &&& 31 = 12) : P_wp P_Y0 200 0 (28, [.ref 0, .ref 2, .ref 47, .ref 63, .ref 64, .int 0, P_un, P_un, P_un], [], (P_hv132 xs 5)) P_okR := by
  exact P_pa29 xs hsw
theorem P_sv13 (xs : Nat → Int32) (hsw : xs 0 &&& 31 = 13) : P_wp P_Y0 200 0 (28, [.ref 0, .ref 2, .ref 47, .ref 63, .ref 64, .int 0, P_un, P_un, P_un], [], (P_hv132 xs 5)) P_okR := by
  exact P_pa30 xs hsw
theorem P_sv14 (xs : Nat → Int32) (hsw : xs 0 &&& 31 = 14) : P_wp P_Y0 200 0 (28, [.ref 0, .ref 2, .ref 47, .ref 63, .ref 64, .int 0, P_un, P_un, P_un], [], (P_hv132 xs 5)) P_okR := by
  exact P_pa31 xs hsw
theorem P_sv15 (xs : Nat → Int32) (hsw : xs 0 &&& 31 = 15) : P_wp P_Y0 200 0 (28, [.ref 0, .ref 2, .ref 47, .ref 63, .ref 64, .int 0, P_un, P_un, P_un], [], (P_hv132 xs 5)) P_okR := by
  exact P_pa32 xs hsw
theorem P_sv16 (xs : Nat → Int32) (hsw : xs 0 &&& 31 = 16) : P_wp P_Y0 200 0 (28, [.ref 0, .ref 2, .ref 47, .ref 63, .ref 64, .int 0, P_un, P_un, P_un], [], (P_hv132 xs 5)) P_okR := by
  exact P_pa33 xs hsw
theorem P_sv17 (xs : Nat → Int32) (hsw : xs 0 &&& 31 = 17) : P_wp P_Y0 200 0 (28, [.ref 0, .ref 2, .ref 47, .ref 63, .ref 64, .int 0, P_un, P_un, P_un], [], (P_hv132 xs 5)) P_okR := by
  exact P_pa34 xs hsw
theorem P_sv18 (xs : Nat → Int32) (hsw : xs 0 &&& 31 = 18) : P_wp P_Y0 200 0 (28, [.ref 0, .ref 2, .ref 47, .ref 63, .ref 64, .int 0, P_un, P_un, P_un], [], (P_hv132 xs 5)) P_okR := by
  exact P_pa35 xs hsw
theorem P_sv19 (xs : Nat → Int32) (hsw : xs 0 &&& 31 = 19) : P_wp P_Y0 200 0 (28, [.ref 0, .ref 2, .ref 47, .ref 63, .ref 64, .int 0, P_un, P_un, P_un], [], (P_hv132 xs 5)) P_okR := by
  exact P_pa36 xs hsw
theorem P_sv20 (xs : Nat → Int32) (hsw : xs 0 &&& 31 = 20) : P_wp P_Y0 200 0 (28, [.ref 0, .ref 2, .ref 47, .ref 63, .ref 64, .int 0, P_un, P_un, P_un], [], (P_hv132 xs 5)) P_okR := by
  exact P_pa37 xs hsw
theorem P_sv21 (xs : Nat → Int32) (hsw : xs 0 &&& 31 = 21) : P_wp P_Y0 200 0 (28, [.ref 0, .ref 2, .ref 47, .ref 63, .ref 64, .int 0, P_un, P_un, P_un], [], (P_hv132 xs 5)) P_okR := by
  exact P_pa38 xs hsw
theorem P_sv22 (xs : Nat → Int32) (hsw : xs 0 &&& 31 = 22) : P_wp P_Y0 200 0 (28, [.ref 0, .ref 2, .ref 47, .ref 63, .ref 64, .int 0, P_un, P_un, P_un], [], (P_hv132 xs 5)) P_okR := by
  exact P_pa39 xs hsw
theorem P_sv23 (xs : Nat → Int32) (hsw : xs 0 &&& 31 = 23) : P_wp P_Y0 200 0 (28, [.ref 0, .ref 2, .ref 47, .ref 63, .ref 64, .int 0, P_un, P_un, P_un], [], (P_hv132 xs 5)) P_okR := by
  exact P_pa40 xs hsw
theorem P_sv24 (xs : Nat → Int32) (hsw : xs 0 &&& 31 = 24) : P_wp P_Y0 200 0 (28, [.ref 0, .ref 2, .ref 47, .ref 63, .ref 64, .int 0, P_un, P_un, P_un], [], (P_hv132 xs 5)) P_okR := by
  exact P_pa41 xs hsw
theorem P_sv25 (xs : Nat → Int32) (hsw : xs 0 &&& 31 = 25) : P_wp P_Y0 200 0 (28, [.ref 0, .ref 2, .ref 47, .ref 63, .ref 64, .int 0, P_un, P_un, P_un], [], (P_hv132 xs 5)) P_okR := by
  exact P_pa42 xs hsw
theorem P_sv26 (xs : Nat → Int32) (hsw : xs 0 &&& 31 = 26) : P_wp P_Y0 200 0 (28, [.ref 0, .ref 2, .ref 47, .ref 63, .ref 64, .int 0, P_un, P_un, P_un], [], (P_hv132 xs 5)) P_okR := by
  exact P_pa43 xs hsw
theorem P_sv27 (xs : Nat → Int32) (hsw : xs 0 &&& 31 = 27) : P_wp P_Y0 200 0 (28, [.ref 0, .ref 2, .ref 47, .ref 63, .ref 64, .int 0, P_un, P_un, P_un], [], (P_hv132 xs 5)) P_okR := by
  exact P_pa44 xs hsw
theorem P_sv28 (xs : Nat → Int32) (hsw : xs 0 &&& 31 = 28) : P_wp P_Y0 200 0 (28, [.ref 0, .ref 2, .ref 47, .ref 63, .ref 64, .int 0, P_un, P_un, P_un], [], (P_hv132 xs 5)) P_okR := by
  exact P_pa45 xs hsw
theorem P_sv29 (xs : Nat → Int32) (hsw : xs 0 &&& 31 = 29) : P_wp P_Y0 200 0 (28, [.ref 0, .ref 2, .ref 47, .ref 63, .ref 64, .int 0, P_un, P_un, P_un], [], (P_hv132 xs 5)) P_okR := by
  exact P_pa46 xs hsw
theorem P_sv30 (xs : Nat → Int32) (hsw : xs 0 &&& 31 = 30) : P_wp P_Y0 200 0 (28, [.ref 0, .ref 2, .ref 47, .ref 63, .ref 64, .int 0, P_un, P_un, P_un], [], (P_hv132 xs 5)) P_okR := by
  exact P_pa47 xs hsw
theorem P_sv31 (xs : Nat → Int32) (hsw : xs 0 &&& 31 = 31) : P_wp P_Y0 200 0 (28, [.ref 0, .ref 2, .ref 47, .ref 63, .ref 64, .int 0, P_un, P_un, P_un], [], (P_hv132 xs 5)) P_okR := by
  exact P_pa48 xs hsw
theorem P_five (xs : Nat → Int32) : P_wp P_Y0 200 0 (28, [.ref 0, .ref 2, .ref 47, .ref 63, .ref 64, .int 0, P_un, P_un, P_un], [], (P_hv132 xs 5)) P_okR := by
  obtain ⟨k, hk, h⟩ := P_and31 (xs 0)
  match k, hk, h with
  | 0, _, h => exact P_sv0 xs h
  | 1, _, h => exact P_sv1 xs h
  | 2, _, h => exact P_sv2 xs h
  | 3, _, h => exact P_sv3 xs h
  | 4, _, h => exact P_sv4 xs h
  | 5, _, h => exact P_sv5 xs h
  | 6, _, h => exact P_sv6 xs h
  | 7, _, h => exact P_sv7 xs h
  | 8, _, h => exact P_sv8 xs h
  | 9, _, h => exact P_sv9 xs h
  | 10, _, h => exact P_sv10 xs h
  | 11, _, h => exact P_sv11 xs h
  | 12, _, h => exact P_sv12 xs h
  | 13, _, h => exact P_sv13 xs h
  | 14, _, h => exact P_sv14 xs h
  | 15, _, h => exact P_sv15 xs h
  | 16, _, h => exact P_sv16 xs h
  | 17, _, h => exact P_sv17 xs h
  | 18, _, h => exact P_sv18 xs h
  | 19, _, h => exact P_sv19 xs h
  | 20, _, h => exact P_sv20 xs h
  | 21, _, h => exact P_sv21 xs h
  | 22, _, h => exact P_sv22 xs h
  | 23, _, h => exact P_sv23 xs h
  | 24, _, h => exact P_sv24 xs h
  | 25, _, h => exact P_sv25 xs h
  | 26, _, h => exact P_sv26 xs h
  | 27, _, h => exact P_sv27 xs h
  | 28, _, h => exact P_sv28 xs h
  | 29, _, h => exact P_sv29 xs h
  | 30, _, h => exact P_sv30 xs h
  | 31, _, h => exact P_sv31 xs h
  | k + 32, hk, _ => exact absurd hk (by omega)
theorem P_run5 (L : Nat) (xs : Nat → Int32) (hL : L ≤ 5) : ∃ n h1, P_ex P_Y0 n 200 0 (0, P_fit 9 [.ref 0], [], (P_h0 L xs, 0, 0)) = some (.inl (some (.int 1)), h1) ∧ h1.2.1 ≤ 600002 ∧ h1.2.2 ≤ 7302232 := by
  have h : P_wp P_Y0 200 0 (28, [.ref 0, .ref 2, .ref 47, .ref 63, .ref 64, .int 0, P_un, P_un, P_un], [], (P_hv132 xs L)) P_okR := by
    match L, hL with
    | 0, _ => exact P_sh0 xs
    | 1, _ => exact P_sh1 xs
    | 2, _ => exact P_sh2 xs
    | 3, _ => exact P_sh3 xs
    | 4, _ => exact P_sh4 xs
    | 5, _ => exact P_five xs
    | L + 6, hL => exact absurd hL (by omega)
  obtain ⟨n, r, h1, hx, hr, h2, h3⟩ := P_con xs L h
  subst hr
  exact ⟨n, h1, hx, h2, h3⟩
