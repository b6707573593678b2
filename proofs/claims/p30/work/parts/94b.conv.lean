/-! the law's own methods, written by wip/g1.py: 94b.conv -/
def G_wpos (A : Nat) (bt : Nat → Nat) (k : Nat) : Nat := if k < 45 then A + k else bt ((k - 50) / 3) + (k - 50) % 3
def G_wlv (k : Nat) : Bool := decide (k < 45 ∨ 50 ≤ k ∧ k < 59)
def G_ww (A : Nat) (bt : Nat → Nat) : P_Lw := (P_sh0, G_wlv, G_wpos A bt)
def G_ws (τ : P_A) (A : Nat) (bt : Nat → Nat) : P_A := fun k j => if k = 2 then (if j < 3 then ((50 + 3 * j : Nat) : Int) else -1) else if k = 9 then -1 else τ (G_wpos A bt k) j
def G_wg (g : P_Gl) : P_Gl := fun a => match g a with
  | some (r, sh) => if r < 20 then some (r, sh) else none
  | none => none
theorem G_wg_at {g : P_Gl} {a r : Nat} {sh : P_Sg} (h : g a = some (r, sh)) (hr : r < 20) : G_wg g a = some (r, sh) := by
  unfold G_wg
  rw [h]
  exact if_pos hr
theorem G_wg_of {g : P_Gl} {a r : Nat} {sh : P_Sg} (h : G_wg g a = some (r, sh)) : g a = some (r, sh) ∧ r < 20 := by
  unfold G_wg at h
  cases e : g a with
  | none => rw [e] at h; cases h
  | some x =>
    rw [e] at h
    obtain ⟨r2, sh2⟩ := x
    dsimp only at h
    by_cases hr : r2 < 20
    · rw [if_pos hr] at h
      cases h
      exact ⟨rfl, hr⟩
    · rw [if_neg hr] at h
      cases h
theorem G_ws_o {τ : P_A} {A : Nat} {bt : Nat → Nat} {k : Nat} (h : k ≠ 2) (h9 : k ≠ 9) : G_ws τ A bt k = τ (G_wpos A bt k) := by
  funext j
  unfold G_ws
  rw [if_neg h, if_neg h9]
theorem G_wpos_t {A : Nat} {bt : Nat → Nat} {t i : Nat} (hi : i < 3) : G_wpos A bt (50 + 3 * t + i) = bt t + i := by
  unfold G_wpos
  rw [if_neg (by omega), show (50 + 3 * t + i - 50) / 3 = t by omega, show (50 + 3 * t + i - 50) % 3 = i by omega]
theorem G_wpos_l {A : Nat} {bt : Nat → Nat} {k : Nat} (h : k < 45) : G_wpos A bt k = A + k := if_pos h
section CNV
variable {g : P_Gl} {τ : P_A} {A : Nat} {bt : Nat → Nat} {pos : Nat → Nat} {s s' : Nat → Int} {r : List Bool} {q : List (Option (Option Nat))} {f : Nat}
theorem G_fz (h : s f = s' f) (k : P_gfl s r (f + 1) = P_fld pos s' q (f + 1)) : P_gfl s (false :: r) f = P_fld pos s' (none :: q) f := by
  simp only [P_gfl, P_fld, h, k]
theorem G_fR {j : Nat} (h : s f = ((pos j : Nat) : Int)) (k : P_gfl s r (f + 1) = P_fld pos s' q (f + 1)) : P_gfl s (true :: r) f = P_fld pos s' (some (some j) :: q) f := by
  simp only [P_gfl, P_fld, h, k, P_rfv]
  rw [if_neg (by omega), Int.toNat_natCast]
/-- a cell of the law's is one of the class's -/
def G_ceP (g : P_Gl) (τ : P_A) (A : Nat) (bt : Nat → Nat) (k : Nat) : Prop := ∃ r sh, ((k < 45 → 20 ≤ r ∧ r ≤ 22) ∧ (45 ≤ k → r = 23)) ∧ g (G_wpos A bt k) = some (r, sh) ∧ P_gcl sh (τ (G_wpos A bt k)) = P_cel (G_ww A bt) (G_ws τ A bt) k
theorem G_ce_a {k n : Nat} (hs : P_sh0 k = .inr (.inl n)) (he : G_ws τ A bt k = τ (G_wpos A bt k)) : P_gcl (.inr (.inl n)) (τ (G_wpos A bt k)) = P_cel (G_ww A bt) (G_ws τ A bt) k := by
  rw [P_cel_a (w := G_ww A bt) hs, he]
  rfl
theorem G_ce_o {k ci : Nat} {bs : List Bool} {fs : List (Option (Option Nat))} (hs : P_sh0 k = .inl (ci, fs)) (he : P_gfl (τ (G_wpos A bt k)) bs 0 = P_fld (G_wpos A bt) (G_ws τ A bt k) fs 0) : P_gcl (.inl (ci, bs)) (τ (G_wpos A bt k)) = P_cel (G_ww A bt) (G_ws τ A bt) k := by
  rw [P_cel_o (w := G_ww A bt) hs, P_gcl_o, he]
  rfl
theorem G_ce_r {k ty n : Nat} (hs : P_sh0 k = .inr (.inr (.inl (ty, n)))) (he : ∀ j : Nat, P_rfo (τ (G_wpos A bt k) j) = if G_ws τ A bt k j < 0 then none else some (G_wpos A bt (G_ws τ A bt k j).toNat)) : P_gcl (.inr (.inr (ty, n))) (τ (G_wpos A bt k)) = P_cel (G_ww A bt) (G_ws τ A bt) k := by
  rw [P_cel_r (w := G_ww A bt) hs]
  have : (fun j => P_rfo (τ (G_wpos A bt k) j)) = fun j => if G_ws τ A bt k j < 0 then none else some (G_wpos A bt (G_ws τ A bt k j).toNat) := funext he
  exact congrArg (fun z => (Sum.inl (ty, n, .inr (.inr (.inr (.inr z)))) : P_E)) this
theorem G_ce_c {k ty : Nat} {ks : List Nat} (hs : P_sh0 k = .inr (.inr (.inr (ty, ks)))) (he : ∀ j : Nat, P_rfo (τ (G_wpos A bt k) j) = (ks[j]?).map (G_wpos A bt)) : P_gcl (.inr (.inr (ty, ks.length))) (τ (G_wpos A bt k)) = P_cel (G_ww A bt) (G_ws τ A bt) k := by
  rw [P_cel_c (w := G_ww A bt) hs]
  have : (fun j => P_rfo (τ (G_wpos A bt k) j)) = fun j => (ks[j]?).map (G_wpos A bt) := funext he
  exact congrArg (fun z => (Sum.inl (ty, ks.length, .inr (.inr (.inr (.inr z)))) : P_E)) this
def G_all (P : Nat → Prop) : Nat → Nat → Prop
  | 0, _ => True
  | n + 1, k => P k ∧ G_all P n (k + 1)
theorem G_all_at {P : Nat → Prop} : ∀ (n k : Nat), G_all P n k → ∀ i, k ≤ i → i < k + n → P i
  | 0, k, _, i, a, b => absurd b (by omega)
  | n + 1, k, h, i, a, b => by
    by_cases e : i = k
    · subst e; exact h.1
    · exact G_all_at n (k + 1) h.2 i (by omega) (by omega)
theorem P_rfo_n {x : Nat} : P_rfo ((x : Nat) : Int) = some x := by
  unfold P_rfo
  rw [if_neg (by omega), Int.toNat_natCast]
theorem P_rfo_m {x : Int} (h : x = -1) : P_rfo x = none := by
  subst h
  rfl
theorem G_ce0 {cT : Int → Nat} (hq : G_oq g τ A 3 bt cT) : ∀ k, k < 45 → G_ceP g τ A bt k := by
  obtain ⟨ha, hr, h2, h9, h14, hs, hl, ht, hb⟩ := hq
  have t0 := (ht 0 (by omega)).1
  have t1 := (ht 1 (by omega)).1
  have t2 := (ht 2 (by omega)).1
  clear ht hb
  obtain ⟨a0, a1, a2, a3, a4, a5, a6, a7, a8, a9, a10, a11, a12, a13, a14, a15, a16, a17, a18, a19, a20, a21, a22, a23, a24, a25, a26, a27, a28, a29, a30, a31, a32, a33, a34, a35, a36, a37, a38, a39, a40, a41, a42, a43, a44⟩ := ha
  obtain ⟨r0, r1, r2, r3, r4, r5, r6, r7, r8, r9, r10, r11, r12, r13, r14, r15, r16, r17, r18, r19, r20, r21, r22, r23, r24, r25, r26, r27, r28, r29, r30, r31, r32, r33, r34, r35, r36, r37, r38, r39, r40, r41, r42, r43, r44, r45, r46, r47, r48, r49, r50, r51, r52⟩ := hr
  have e2 : ∀ j : Nat, P_rfo (τ (G_wpos A bt 2) j) = if G_ws τ A bt 2 j < 0 then none else some (G_wpos A bt (G_ws τ A bt 2 j).toNat) := fun j => by
    have ew : G_ws τ A bt 2 j = if j < 3 then ((50 + 3 * j : Nat) : Int) else -1 := rfl
    rw [ew]
    match j with
    | 0 => exact (congrArg P_rfo t0).trans P_rfo_n
    | 1 => exact (congrArg P_rfo t1).trans P_rfo_n
    | 2 => exact (congrArg P_rfo t2).trans P_rfo_n
    | j + 3 =>
      rw [if_neg (show ¬ j + 3 < 3 by omega), if_pos (by decide)]
      exact P_rfo_m (h2 (j + 3) (by omega))
  have e9 : ∀ j : Nat, P_rfo (τ (G_wpos A bt 9) j) = if G_ws τ A bt 9 j < 0 then none else some (G_wpos A bt (G_ws τ A bt 9 j).toNat) := fun j => by
    have ew : G_ws τ A bt 9 j = -1 := rfl
    rw [ew, if_pos (by decide)]
    exact P_rfo_m (h9 j)
  have e14 : P_gcl (.inr (.inr (101, 12))) (τ (G_wpos A bt 14)) = P_cel (G_ww A bt) (G_ws τ A bt) 14 := by
    refine G_ce_c (ks := [15, 16, 17, 18, 19, 20, 21, 22, 23, 24, 25, 26]) rfl (fun j => ?_)
    match j with
    | 0 => exact (congrArg P_rfo r21).trans P_rfo_n
    | 1 => exact (congrArg P_rfo r22).trans P_rfo_n
    | 2 => exact (congrArg P_rfo r23).trans P_rfo_n
    | 3 => exact (congrArg P_rfo r24).trans P_rfo_n
    | 4 => exact (congrArg P_rfo r25).trans P_rfo_n
    | 5 => exact (congrArg P_rfo r26).trans P_rfo_n
    | 6 => exact (congrArg P_rfo r27).trans P_rfo_n
    | 7 => exact (congrArg P_rfo r28).trans P_rfo_n
    | 8 => exact (congrArg P_rfo r29).trans P_rfo_n
    | 9 => exact (congrArg P_rfo r30).trans P_rfo_n
    | 10 => exact (congrArg P_rfo r31).trans P_rfo_n
    | 11 => exact (congrArg P_rfo r32).trans P_rfo_n
    | j + 12 => exact P_rfo_m (h14 (j + 12) (by omega))
  have c0 : G_ceP g τ A bt 0 := ⟨20, .inl (10, [true, true, true, true, true, true, true]), by decide, a0, G_ce_o rfl (G_fR r0 (G_fR r1 (G_fR r2 (G_fR r3 (G_fR r4 (G_fR r5 (G_fR r6 rfl)))))))⟩
  have c1 : G_ceP g τ A bt 1 := ⟨21, .inl (8, [true, true, false]), by decide, a1, G_ce_o rfl (G_fR r7 (G_fR r8 (G_fz rfl rfl)))⟩
  have c2 : G_ceP g τ A bt 2 := ⟨22, .inr (.inr (109, 5)), by decide, a2, G_ce_r rfl e2⟩
  have c3 : G_ceP g τ A bt 3 := ⟨20, .inl (9, [false, true, true, false]), by decide, a3, G_ce_o rfl (G_fz rfl (G_fR r9 (G_fR r10 (G_fz rfl rfl))))⟩
  have c4 : G_ceP g τ A bt 4 := ⟨20, .inr (.inl 42), by decide, a4, G_ce_a rfl (G_ws_o (by decide) (by decide))⟩
  have c5 : G_ceP g τ A bt 5 := ⟨20, .inr (.inl 3), by decide, a5, G_ce_a rfl (G_ws_o (by decide) (by decide))⟩
  have c6 : G_ceP g τ A bt 6 := ⟨20, .inl (3, [true, true, true, true, false, false, false, false, false]), by decide, a6, G_ce_o rfl (G_fR r11 (G_fR r12 (G_fR r13 (G_fR r14 (G_fz rfl (G_fz rfl (G_fz rfl (G_fz rfl (G_fz rfl rfl)))))))))⟩
  have c7 : G_ceP g τ A bt 7 := ⟨20, .inr (.inl 4), by decide, a7, G_ce_a rfl (G_ws_o (by decide) (by decide))⟩
  have c8 : G_ceP g τ A bt 8 := ⟨20, .inr (.inl 4), by decide, a8, G_ce_a rfl (G_ws_o (by decide) (by decide))⟩
  have c9 : G_ceP g τ A bt 9 := ⟨20, .inr (.inr (109, 3)), by decide, a9, G_ce_r rfl e9⟩
  have c10 : G_ceP g τ A bt 10 := ⟨20, .inl (9, [false, true, true, false]), by decide, a10, G_ce_o rfl (G_fz rfl (G_fR r15 (G_fR r16 (G_fz rfl rfl))))⟩
  have c11 : G_ceP g τ A bt 11 := ⟨20, .inr (.inl 42), by decide, a11, G_ce_a rfl (G_ws_o (by decide) (by decide))⟩
  have c12 : G_ceP g τ A bt 12 := ⟨20, .inr (.inl 3), by decide, a12, G_ce_a rfl (G_ws_o (by decide) (by decide))⟩
  have c13 : G_ceP g τ A bt 13 := ⟨20, .inl (5, [true, true, true, true, false, false]), by decide, a13, G_ce_o rfl (G_fR r17 (G_fR r18 (G_fR r19 (G_fR r20 (G_fz rfl (G_fz rfl rfl))))))⟩
  have c14 : G_ceP g τ A bt 14 := ⟨20, .inr (.inr (101, 12)), by decide, a14, e14⟩
  have c15 : G_ceP g τ A bt 15 := ⟨20, .inl (1, [false, false, false, false]), by decide, a15, G_ce_o rfl (G_fz rfl (G_fz rfl (G_fz rfl (G_fz rfl rfl))))⟩
  have c16 : G_ceP g τ A bt 16 := ⟨20, .inl (1, [false, false, false, false]), by decide, a16, G_ce_o rfl (G_fz rfl (G_fz rfl (G_fz rfl (G_fz rfl rfl))))⟩
  have c17 : G_ceP g τ A bt 17 := ⟨20, .inl (1, [false, false, false, false]), by decide, a17, G_ce_o rfl (G_fz rfl (G_fz rfl (G_fz rfl (G_fz rfl rfl))))⟩
  have c18 : G_ceP g τ A bt 18 := ⟨20, .inl (1, [false, false, false, false]), by decide, a18, G_ce_o rfl (G_fz rfl (G_fz rfl (G_fz rfl (G_fz rfl rfl))))⟩
  have c19 : G_ceP g τ A bt 19 := ⟨20, .inl (1, [false, false, false, false]), by decide, a19, G_ce_o rfl (G_fz rfl (G_fz rfl (G_fz rfl (G_fz rfl rfl))))⟩
  have c20 : G_ceP g τ A bt 20 := ⟨20, .inl (1, [false, false, false, false]), by decide, a20, G_ce_o rfl (G_fz rfl (G_fz rfl (G_fz rfl (G_fz rfl rfl))))⟩
  have c21 : G_ceP g τ A bt 21 := ⟨20, .inl (1, [false, false, false, false]), by decide, a21, G_ce_o rfl (G_fz rfl (G_fz rfl (G_fz rfl (G_fz rfl rfl))))⟩
  have c22 : G_ceP g τ A bt 22 := ⟨20, .inl (1, [false, false, false, false]), by decide, a22, G_ce_o rfl (G_fz rfl (G_fz rfl (G_fz rfl (G_fz rfl rfl))))⟩
  have c23 : G_ceP g τ A bt 23 := ⟨20, .inl (1, [false, false, false, false]), by decide, a23, G_ce_o rfl (G_fz rfl (G_fz rfl (G_fz rfl (G_fz rfl rfl))))⟩
  have c24 : G_ceP g τ A bt 24 := ⟨20, .inl (1, [false, false, false, false]), by decide, a24, G_ce_o rfl (G_fz rfl (G_fz rfl (G_fz rfl (G_fz rfl rfl))))⟩
  have c25 : G_ceP g τ A bt 25 := ⟨20, .inl (1, [false, false, false, false]), by decide, a25, G_ce_o rfl (G_fz rfl (G_fz rfl (G_fz rfl (G_fz rfl rfl))))⟩
  have c26 : G_ceP g τ A bt 26 := ⟨20, .inl (1, [false, false, false, false]), by decide, a26, G_ce_o rfl (G_fz rfl (G_fz rfl (G_fz rfl (G_fz rfl rfl))))⟩
  have c27 : G_ceP g τ A bt 27 := ⟨20, .inl (1, [false, false, false, false]), by decide, a27, G_ce_o rfl (G_fz rfl (G_fz rfl (G_fz rfl (G_fz rfl rfl))))⟩
  have c28 : G_ceP g τ A bt 28 := ⟨20, .inr (.inl 3), by decide, a28, G_ce_a rfl (G_ws_o (by decide) (by decide))⟩
  have c29 : G_ceP g τ A bt 29 := ⟨20, .inl (7, [true, true, true, true, false, false, false, false, false, false]), by decide, a29, G_ce_o rfl (G_fR r33 (G_fR r34 (G_fR r35 (G_fR r36 (G_fz rfl (G_fz rfl (G_fz rfl (G_fz rfl (G_fz rfl (G_fz rfl rfl))))))))))⟩
  have c30 : G_ceP g τ A bt 30 := ⟨20, .inr (.inl 40), by decide, a30, G_ce_a rfl (G_ws_o (by decide) (by decide))⟩
  have c31 : G_ceP g τ A bt 31 := ⟨20, .inl (0, [true, true, true, false, false, false, false, false, true, true, true, true, true, true, false, false, false]), by decide, a31, G_ce_o rfl (G_fR r37 (G_fR r38 (G_fR r39 (G_fz rfl (G_fz rfl (G_fz rfl (G_fz rfl (G_fz rfl (G_fR r40 (G_fR r41 (G_fR r42 (G_fR r43 (G_fR r44 (G_fR r45 (G_fz rfl (G_fz rfl (G_fz rfl rfl)))))))))))))))))⟩
  have c32 : G_ceP g τ A bt 32 := ⟨20, .inr (.inl 3), by decide, a32, G_ce_a rfl (G_ws_o (by decide) (by decide))⟩
  have c33 : G_ceP g τ A bt 33 := ⟨20, .inl (4, [true, true, true, true]), by decide, a33, G_ce_o rfl (G_fR r46 (G_fR r47 (G_fR r48 (G_fR r49 rfl))))⟩
  have c34 : G_ceP g τ A bt 34 := ⟨20, .inr (.inl 14), by decide, a34, G_ce_a rfl (G_ws_o (by decide) (by decide))⟩
  have c35 : G_ceP g τ A bt 35 := ⟨20, .inr (.inl 14), by decide, a35, G_ce_a rfl (G_ws_o (by decide) (by decide))⟩
  have c36 : G_ceP g τ A bt 36 := ⟨20, .inr (.inl 56), by decide, a36, G_ce_a rfl (G_ws_o (by decide) (by decide))⟩
  have c37 : G_ceP g τ A bt 37 := ⟨20, .inr (.inl 2744), by decide, a37, G_ce_a rfl (G_ws_o (by decide) (by decide))⟩
  have c38 : G_ceP g τ A bt 38 := ⟨20, .inr (.inl 2744), by decide, a38, G_ce_a rfl (G_ws_o (by decide) (by decide))⟩
  have c39 : G_ceP g τ A bt 39 := ⟨20, .inr (.inl 2744), by decide, a39, G_ce_a rfl (G_ws_o (by decide) (by decide))⟩
  have c40 : G_ceP g τ A bt 40 := ⟨20, .inr (.inl 2744), by decide, a40, G_ce_a rfl (G_ws_o (by decide) (by decide))⟩
  have c41 : G_ceP g τ A bt 41 := ⟨20, .inr (.inl 2744), by decide, a41, G_ce_a rfl (G_ws_o (by decide) (by decide))⟩
  have c42 : G_ceP g τ A bt 42 := ⟨20, .inl (2, [true, true, true, false, false, false, false, false]), by decide, a42, G_ce_o rfl (G_fR r50 (G_fR r51 (G_fR r52 (G_fz rfl (G_fz rfl (G_fz rfl (G_fz rfl (G_fz rfl rfl))))))))⟩
  have c43 : G_ceP g τ A bt 43 := ⟨20, .inr (.inl 3), by decide, a43, G_ce_a rfl (G_ws_o (by decide) (by decide))⟩
  have c44 : G_ceP g τ A bt 44 := ⟨20, .inl (6, [false, false, false, false]), by decide, a44, G_ce_o rfl (G_fz rfl (G_fz rfl (G_fz rfl (G_fz rfl rfl))))⟩
  have all : G_all (G_ceP g τ A bt) 45 0 := (And.intro c0 (And.intro c1 (And.intro c2 (And.intro c3 (And.intro c4 (And.intro c5 (And.intro c6 (And.intro c7 (And.intro c8 (And.intro c9 (And.intro c10 (And.intro c11 (And.intro c12 (And.intro c13 (And.intro c14 (And.intro c15 (And.intro c16 (And.intro c17 (And.intro c18 (And.intro c19 (And.intro c20 (And.intro c21 (And.intro c22 (And.intro c23 (And.intro c24 (And.intro c25 (And.intro c26 (And.intro c27 (And.intro c28 (And.intro c29 (And.intro c30 (And.intro c31 (And.intro c32 (And.intro c33 (And.intro c34 (And.intro c35 (And.intro c36 (And.intro c37 (And.intro c38 (And.intro c39 (And.intro c40 (And.intro c41 (And.intro c42 (And.intro c43 (And.intro c44 True.intro)))))))))))))))))))))))))))))))))))))))))))))
  exact fun k hk => G_all_at 45 0 all k (Nat.zero_le k) (by omega)
theorem G_ce1 {cT : Int → Nat} (hq : G_oq g τ A 3 bt cT) : ∀ k, 50 ≤ k → k < 59 → G_ceP g τ A bt k := by
  obtain ⟨ha, hr, h2, h9, h14, hs, hl, ht, hb⟩ := hq
  obtain ⟨-, ⟨b0, b1, b2⟩, f0, f1, f2, f3, -, -⟩ := ht 0 (by omega)
  obtain ⟨-, ⟨b3, b4, b5⟩, k0, k1, k2, k3, -, -⟩ := ht 1 (by omega)
  obtain ⟨-, ⟨b6, b7, b8⟩, m0, m1, m2, m3, -, -⟩ := ht 2 (by omega)
  clear ha hr ht hb
  have c50 : G_ceP g τ A bt 50 := ⟨23, .inl (9, [false, true, true, false]), by decide, b0, G_ce_o rfl (G_fz rfl (G_fR f1 (G_fR f2 (G_fz rfl rfl))))⟩
  have c51 : G_ceP g τ A bt 51 := ⟨23, .inr (.inl 42), by decide, b1, G_ce_a rfl (G_ws_o (by decide) (by decide))⟩
  have c52 : G_ceP g τ A bt 52 := ⟨23, .inr (.inl 3), by decide, b2, G_ce_a rfl (G_ws_o (by decide) (by decide))⟩
  have c53 : G_ceP g τ A bt 53 := ⟨23, .inl (9, [false, true, true, false]), by decide, b3, G_ce_o rfl (G_fz rfl (G_fR k1 (G_fR k2 (G_fz rfl rfl))))⟩
  have c54 : G_ceP g τ A bt 54 := ⟨23, .inr (.inl 42), by decide, b4, G_ce_a rfl (G_ws_o (by decide) (by decide))⟩
  have c55 : G_ceP g τ A bt 55 := ⟨23, .inr (.inl 3), by decide, b5, G_ce_a rfl (G_ws_o (by decide) (by decide))⟩
  have c56 : G_ceP g τ A bt 56 := ⟨23, .inl (9, [false, true, true, false]), by decide, b6, G_ce_o rfl (G_fz rfl (G_fR m1 (G_fR m2 (G_fz rfl rfl))))⟩
  have c57 : G_ceP g τ A bt 57 := ⟨23, .inr (.inl 42), by decide, b7, G_ce_a rfl (G_ws_o (by decide) (by decide))⟩
  have c58 : G_ceP g τ A bt 58 := ⟨23, .inr (.inl 3), by decide, b8, G_ce_a rfl (G_ws_o (by decide) (by decide))⟩
  have all : G_all (G_ceP g τ A bt) 9 50 := (And.intro c50 (And.intro c51 (And.intro c52 (And.intro c53 (And.intro c54 (And.intro c55 (And.intro c56 (And.intro c57 (And.intro c58 True.intro)))))))))
  exact fun k hk hk2 => G_all_at 9 50 all k hk (by omega)
theorem G_ceA {cT : Int → Nat} (hq : G_oq g τ A 3 bt cT) {k : Nat} (hl : G_wlv k = true) : G_ceP g τ A bt k := by
  have := of_decide_eq_true hl
  by_cases e : k < 45
  · exact G_ce0 hq k e
  · exact G_ce1 hq k (by omega) (by omega)
theorem G_wij {cT : Int → Nat} (hq : G_oq g τ A 3 bt cT) {j k : Nat} (hj : G_wlv j = true) (hk : G_wlv k = true) (he : G_wpos A bt j = G_wpos A bt k) : j = k := by
  obtain ⟨r1, s1, ⟨x1, x2⟩, x3, -⟩ := G_ceA hq hj
  obtain ⟨r2, s2, ⟨y1, y2⟩, y3, -⟩ := G_ceA hq hk
  have hr : r1 = r2 := by
    rw [he] at x3
    cases x3.symm.trans y3
    rfl
  have oj := of_decide_eq_true hj
  have ok := of_decide_eq_true hk
  clear x3 y3
  by_cases ej : j < 45
  · by_cases ek : k < 45
    · rw [G_wpos_l ej, G_wpos_l ek] at he
      omega
    · have := x1 ej
      have := y2 (by omega)
      omega
  · by_cases ek : k < 45
    · have := y1 ek
      have := x2 (by omega)
      omega
    · have hb := hq.2.2.2.2.2.2.2.2
      have b01 := hb 0 1 (by omega) (by omega)
      have b12 := hb 1 2 (by omega) (by omega)
      obtain ⟨t, i, hi, hji, ht⟩ : ∃ t i, i < 3 ∧ j = 50 + 3 * t + i ∧ t < 3 := ⟨(j - 50) / 3, (j - 50) % 3, by omega, by omega, by omega⟩
      obtain ⟨t2, i2, hi2, hki, ht2⟩ : ∃ t i, i < 3 ∧ k = 50 + 3 * t + i ∧ t < 3 := ⟨(k - 50) / 3, (k - 50) % 3, by omega, by omega, by omega⟩
      rw [hji, hki, G_wpos_t hi, G_wpos_t hi2] at he
      clear hq x1 x2 y1 y2 hb
      have : t = 0 ∨ t = 1 ∨ t = 2 := by omega
      have : t2 = 0 ∨ t2 = 1 ∨ t2 = 2 := by omega
      rcases ‹t = 0 ∨ t = 1 ∨ t = 2› with rfl | rfl | rfl <;> rcases ‹t2 = 0 ∨ t2 = 1 ∨ t2 = 2› with rfl | rfl | rfl <;> omega
theorem G_conv {cT : Int → Nat} {w : P_Lw} {σ : P_A} {N u : Nat} {h : P_H} (hq : G_oq g τ A 3 bt cT) (hk : P_Gk w σ g τ N u h) : P_Gk (G_ww A bt) (G_ws τ A bt) (G_wg g) τ N u h := by
  obtain ⟨k1, k2, k3, k4, k5⟩ := hk
  refine ⟨⟨fun k hl => ?_, fun j k hj hl he => G_wij hq hj hl he, k1.2.2⟩, fun a r sh e => ?_, k3, k4, k5⟩
  · obtain ⟨r, sh, -, x3, x4⟩ := G_ceA hq hl
    obtain ⟨y1, y2, -⟩ := k2 _ _ _ x3
    exact ⟨y1, by rw [← x4]; exact y2⟩
  · obtain ⟨e1, e2⟩ := G_wg_of e
    obtain ⟨y1, y2, -⟩ := k2 _ _ _ e1
    refine ⟨y1, y2, fun k hl z => ?_⟩
    obtain ⟨r2, sh2, ⟨x1, x2⟩, x3, -⟩ := G_ceA hq hl
    rw [show G_wpos A bt k = a from z] at x3
    cases x3.symm.trans e1
    by_cases ek : k < 45
    · have := x1 ek; omega
    · have := x2 (by omega); omega
theorem P_gw_conv {cT : Int → Nat} {w : P_Lw} {σ : P_A} {N u d y pc : Nat} {L st : List Value} {Q : P_GQ} (hq : G_oq g τ A 3 bt cT) (k : P_gw d y pc L st (G_ww A bt) (G_ws τ A bt) (G_wg g) τ N u Q) : P_gw d y pc L st w σ g τ N u Q := fun h hk => k h (G_conv hq hk)
theorem G_ww_C : P_Cw (G_ww A bt) ∧ (G_ww A bt).2.1 42 = true ∧ (G_ww A bt).2.1 43 = true := ⟨⟨rfl, fun k hk => decide_eq_true (by omega), rfl⟩, rfl, rfl⟩
theorem G_ww_T : ∀ t : Nat, t < 3 → P_isT (G_ww A bt) (50 + 3 * t)
  | 0, _ => ⟨⟨rfl, rfl⟩, ⟨rfl, rfl⟩, rfl, rfl⟩
  | 1, _ => ⟨⟨rfl, rfl⟩, ⟨rfl, rfl⟩, rfl, rfl⟩
  | 2, _ => ⟨⟨rfl, rfl⟩, ⟨rfl, rfl⟩, rfl, rfl⟩
  | t + 3, h => absurd h (by omega)
theorem G_pb_Wb {G T : Nat} {tt cT : Int → Nat} {L K : Nat} {dr : Int} (hb : G_pb g τ G T 3 tt cT L K A bt dr) : G_Wb (G_ww A bt) (G_ws τ A bt) (G_wg g) τ G T tt (fun _ => 0) (fun _ _ => 0) cT (fun _ _ _ => 0) L K [] dr := by
  obtain ⟨hT, hL, hK, hq, h0, hs1, hdr2⟩ := hb
  obtain ⟨⟨t1, t2⟩, t3, t4, t5⟩ := hT
  refine ⟨⟨⟨G_wg_at t1 (by decide), t2⟩, G_wg_at t3 (by decide), t4, fun t x y => ?_⟩, ⟨⟨G_wg_at t1 (by decide), hL.1.2⟩, G_wg_at hL.2.1 (by decide), hL.2.2⟩, ⟨⟨G_wg_at t1 (by decide), hK.1.2⟩, G_wg_at hK.2 (by decide)⟩, ⟨?_, by decide, fun t ht => ?_⟩, ⟨?_, fun j hj => absurd hj (Nat.not_lt_zero j)⟩, h0, hs1, hdr2⟩
  · obtain ⟨⟨z1, z2, z3, z4⟩, -⟩ := t5 t x y
    exact ⟨⟨z1, G_wg_at z2 (by decide), z3, z4⟩, fun j p q => absurd q (by simp only [Int.ofNat_zero]; omega)⟩
  · exact hq.2.2.2.2.2.1
  · have hc := (t5 (t : Int) (by omega) (by omega)).1.2.2.2
    obtain ⟨-, -, y0, -, -, y3, y4, y5⟩ := hq.2.2.2.2.2.2.2.1 t ht
    have e0 : ∀ j : Nat, G_ws τ A bt (50 + 3 * t) j = τ (bt t) j := fun j => by
      rw [G_ws_o (by omega) (by omega)]
      exact congrArg (fun z => τ z j) (G_wpos_t (i := 0) (by omega))
    have e1 : ∀ j : Nat, G_ws τ A bt (50 + 3 * t + 1) j = 0 := fun j => by
      rw [G_ws_o (by omega) (by omega), G_wpos_t (by omega)]
      exact y4 j
    have e2 : ∀ j : Nat, G_ws τ A bt (50 + 3 * t + 2) j = 0 := fun j => by
      rw [G_ws_o (by omega) (by omega), G_wpos_t (by omega)]
      exact y5 j
    have e3 : G_ws τ A bt 2 t = ((50 + 3 * t : Nat) : Int) := by
      unfold G_ws
      rw [if_pos rfl, if_pos ht]
    refine ⟨⟨G_ww_T t ht, e3⟩, ⟨(e0 0).trans y0, hc.2⟩, ⟨(e0 3).trans y3, Nat.zero_le _⟩, fun c j a b p q => absurd q (by simp only [Int.ofNat_zero]; omega), fun c _ _ => e2 _, fun j => ?_, fun j => ?_⟩
    · rw [e1]; omega
    · rw [e2]; omega
  · exact hq.2.2.2.2.2.2.1
end CNV