/-! the law's own methods, written by wip/g1.py: 90d.wrap -/
theorem P_o_d2i {r1 : Int} {r2 : Nat} {L st : List Value} {x : UInt64} {c : Int} (h : FP.d2i x = Int32.ofInt c) : P_op .d2i r1 r2 L (.double x :: st) = some (L, P_z c :: st) := by simp only [P_op, P_u, P_d2i, h]
theorem P_o_lcmpX {r1 : Int} {r2 : Nat} {L st : List Value} {x : Int64} : P_op .lcmp r1 r2 L (.long x :: .long x :: st) = some (L, P_z 0 :: st) := by
  have : lg_cmp x x = 0 := by
    unfold lg_cmp
    have h : ¬ x < x := by rw [Int64.lt_iff_toInt_lt]; omega
    simp [h]
  simp only [P_op, P_lcmp, this]
  rfl
theorem P_gw_dcf {d y pc : Nat} {rt : Option FieldType} {hs : List (Nat × Nat × Nat × Nat × Nat)} {nx : Nat} {r1 : Int} {r2 : Nat} {kN kT : List Nat} {L st : List Value} {w : P_Lw} {σ : P_A} {g : P_Gl} {τ : P_A} {N u : Nat} {Q : P_GQ} {op : CmpOp} {c : ClassFile.Cond} {o : Int} {x z : UInt64} {nx2 r22 : Nat} {r12 : Int} {kN2 kT2 : List Nat} (h1 : P_in P_Y0 y pc rt hs (.dcmp op) nx r1 r2 kN kT) (h2 : P_in P_Y0 y nx rt hs (.ifCond c o) nx2 r12 r22 kN2 kT2) (hj : P_cc c (Op.cmpValue (FP.dcmp x z) op) 0 = false) (k : P_gw d y nx2 (P_kill (P_kill L kN) kN2) st w σ g τ N u Q) : P_gw d y pc L (.double z :: .double x :: st) w σ g τ N u Q :=
  P_gw_op h1 rfl (P_gw_brf h2 (by simp only [P_br, hj]) k)
section WR
variable {w : P_Lw} {d : Nat} {Q : P_R → P_A → Prop} {σ : P_A} {nn ni : Nat}
theorem G_s_open {tb : Int → Nat} {rw : Int → Int} {vr : Int → Int → Int} {cl : Int → Int} {V : Int → Int → Int → Int} {cs : List A_cd} {od : Int → Int} {ki ci : Int → Int} {gp oi lm nv : Int} (hw : P_Cw w) (hB : A_B w σ (nn : Int) tb rw vr cl V cs od (ni : Int) ki ci gp oi lm nv) (q : ∀ σ', (∀ a b, a ≠ 44 → σ' a b = σ a b) → σ' 44 0 = 1 → σ' 44 1 = 0 → Q (.inl (some (P_z (ni : Int)))) σ') : P_aw w (d + 8) 154 0 [.ref (w.2.2 0)] [] σ Q :=
  s_open hw hB (q _ (fun a b h => by rw [P_u2_ne (by omega), P_u2_ne (by omega), P_u2_ne (by omega), P_u2_ne (by omega), P_u2_ne (by omega)]) P_u2_at ((P_u2_ne (by omega)).trans ((P_u2_ne (by omega)).trans ((P_u2_ne (by omega)).trans P_u2_at))))
theorem G_s_val {tb : Int → Nat} {rw : Int → Int} {vr : Int → Int → Int} {cl : Int → Int} {V : Int → Int → Int → Int} {cs : List A_cd} {od : Int → Int} {ki ci : Int → Int} {gp oi lm nv : Int} (hw : P_Cw w) (hB : A_B w σ (nn : Int) tb rw vr cl V cs od (ni : Int) ki ci gp oi lm nv) {rd ck mt : Int} {sz : Nat} (hka : A_ka σ V rw (ni : Int) ki ci gp oi lm rd ck mt sz) {p j : Int} (hp1 : σ 44 1 = p + 1) (hpl : 0 ≤ p ∧ p < ((sz : Nat) : Int)) (hj : 0 ≤ j ∧ j < (ni : Int)) (q : Q (.inl (some (P_z (A_av σ V rw ki ci (A_gth ki (ni : Int) gp) p j)))) σ) : P_aw w (d + 10) 156 0 [.ref (w.2.2 0), P_z j] [] σ Q :=
  s_val hw hB hka hp1 (by omega) hj (by rw [show p + 1 - 1 = p by omega]; exact q)
def G_mw (V : Int → Int → Int → Int) (rw : Int → Int) (cs : List A_cd) (od : Int → Int) (nn : Nat) (k : Int) : Int := (A_go 1000000000 (fun p ρ => A_hl (A_val V rw ρ) p k cs 0) od rw ((nn : Nat) : Int).toNat 0 (fun _ => 0, 0, 0, 0)).2.2.2
theorem G_s_mwo {tb : Int → Nat} {rw : Int → Int} {vr : Int → Int → Int} {cl : Int → Int} {V : Int → Int → Int → Int} {cs : List A_cd} {od : Int → Int} {ki ci : Int → Int} {gp oi lm nv : Int} (hw : P_Cw w) (hB : A_B w σ (nn : Int) tb rw vr cl V cs od (ni : Int) ki ci gp oi lm nv) (hl42 : w.2.1 42 = true) (hl43 : w.2.1 43 = true) {k : Int} (hk : 0 ≤ k ∧ k < (cs.length : Int)) (q : ∀ σ', (∀ a b, ¬ (42 ≤ a ∧ a ≤ 43) → σ' a b = σ a b) → Q (.inl (some (P_z (G_mw V rw cs od nn k)))) σ') : P_aw w (d + 14) 161 0 [.ref (w.2.2 0), P_z k] [] σ Q := s_mwo hw hB hl42 hl43 hk q
theorem A_gs_rg3 {rw od : Int → Int} {th : Int → Int → Int} {ns : Int} (hr : ∀ p, 0 ≤ p → p < ns → 0 ≤ rw (od p) ∧ rw (od p) ≤ 14) (ht : ∀ p g, 0 ≤ g → 0 ≤ th p g ∧ th p g ≤ g) {k : Int} (hk : 0 ≤ k ∧ k < ns ∧ ns ≤ 3) : 0 ≤ A_gs rw od th (k + 1).toNat 0 1 ∧ A_gs rw od th (k + 1).toNat 0 1 ≤ 2744 := by
  have r0 := hr 0 (by omega) (by omega)
  have m0 := A_mb (a := 1) (by omega) r0.1 r0.2
  have t0 := ht 0 _ m0.1
  rcases (by omega : k = 0 ∨ k = 1 ∨ k = 2) with rfl | rfl | rfl
  · show 0 ≤ th 0 (1 * rw (od 0)) ∧ th 0 (1 * rw (od 0)) ≤ 2744
    omega
  · have r1 := hr 1 (by omega) (by omega)
    have m1 := A_mb t0.1 r1.1 r1.2
    have t1 := ht 1 _ m1.1
    show 0 ≤ th 1 (th 0 (1 * rw (od 0)) * rw (od 1)) ∧ th 1 (th 0 (1 * rw (od 0)) * rw (od 1)) ≤ 2744
    omega
  · have r1 := hr 1 (by omega) (by omega)
    have m1 := A_mb t0.1 r1.1 r1.2
    have t1 := ht 1 _ m1.1
    have r2 := hr 2 (by omega) (by omega)
    have m2 := A_mb t1.1 r2.1 r2.2
    have t2 := ht 2 _ m2.1
    show 0 ≤ th 2 (th 1 (th 0 (1 * rw (od 0)) * rw (od 1)) * rw (od 2)) ∧ th 2 (th 1 (th 0 (1 * rw (od 0)) * rw (od 1)) * rw (od 2)) ≤ 2744
    omega
theorem G_rw14 {tb : Int → Nat} {rw : Int → Int} {vr : Int → Int → Int} {od : Int → Int} (hA : A_V w σ (nn : Int) tb rw vr) (hO : A_O σ (nn : Int) od) : ∀ p, 0 ≤ p → p < (nn : Int) → 0 ≤ rw (od p) ∧ rw (od p) ≤ 14 := fun p x y => by
  have h := hO p x (by have := hA.2.1; omega)
  exact (hA.2.2 (od p) h.2.1 (h.2.2.2 y)).2.2.2.1
theorem G_s_gss {tb : Int → Nat} {rw : Int → Int} {vr : Int → Int → Int} {cl : Int → Int} {V : Int → Int → Int → Int} {cs : List A_cd} {od : Int → Int} {ki ci : Int → Int} {gp oi lm nv : Int} (hw : P_Cw w) (hB : A_B w σ (nn : Int) tb rw vr cl V cs od (ni : Int) ki ci gp oi lm nv) {k : Int} (hk : 0 ≤ k ∧ k < (nn : Int)) (q : ∀ x, 0 ≤ x → x ≤ 2744 → Q (.inl (some (P_zl x))) σ) : P_aw w (d + 9) 151 0 [.ref (w.2.2 0), P_z k] [] σ Q := by
  have h := A_gs_rg3 (th := A_th vr (cs.length : Int) (fun i => A_lc cs i 0) (fun i => A_lc cs i 1) (fun i => A_lc cs i 2) (fun i => A_lc cs i 3)) (G_rw14 hB.1 hB.2.2.2.2.1) (fun p g h => A_th_rg h) ⟨hk.1, hk.2, hB.1.2.1.2⟩
  exact s_gss hw hB hk (q _ h.1 h.2)
theorem G_s_cst {tb : Int → Nat} {rw : Int → Int} {vr : Int → Int → Int} {cl : Int → Int} {V : Int → Int → Int → Int} {cs : List A_cd} {od : Int → Int} {ki ci : Int → Int} {gp oi lm nv : Int} (hw : P_Cw w) (hB : A_B w σ (nn : Int) tb rw vr cl V cs od (ni : Int) ki ci gp oi lm nv) (q : ∀ x, 0 ≤ x → x ≤ 3000 → Q (.inl (some (P_zl x))) σ) : P_aw w (d + 9) 152 0 [.ref (w.2.2 0)] [] σ Q := by
  refine s_cst hw hB ?_
  split
  · exact q 0 (by omega) (by omega)
  · have h := A_ct_rg (th := A_th vr (cs.length : Int) (fun i => A_lc cs i 0) (fun i => A_lc cs i 1) (fun i => A_lc cs i 2) (fun i => A_lc cs i 3)) hB.1.2.1 (G_rw14 hB.1 hB.2.2.2.2.1) (fun p g h => A_th_rg h)
    exact q _ h.1 h.2
end WR
/-- an item that counts -/
theorem G_av_c {σ : P_A} {V : Int → Int → Int → Int} {rw ki ci : Int → Int} {gth p j : Int} (h1 : gth = 1) (h7 : ki j = 7) : A_av σ V rw ki ci gth p j = σ 34 (σ 37 p.toNat).toNat := by
  unfold A_av A_gv
  rw [if_pos h1, if_pos h7]
theorem G_gt_1 {ki : Int → Int} : ∀ (n : Nat) (i : Int), A_gt ki n i 1 = 1
  | 0, _ => rfl
  | n + 1, i => by simp only [A_gt, if_true]; exact G_gt_1 n (i + 1)
theorem G_gt_c {ki : Int → Int} : ∀ (n : Nat) (i g j : Int), i ≤ j → j < i + (n : Int) → ki j ≠ -1 → A_gt ki n i g = 1
  | 0, i, g, j, h0, h1, _ => by omega
  | n + 1, i, g, j, h0, h1, hk => by
    simp only [A_gt]
    by_cases e : i = j
    · subst e
      rw [if_neg hk]
      rw [show (if g = 1 then (1 : Int) else 1) = 1 by split <;> rfl]
      exact G_gt_1 n _
    · exact G_gt_c n (i + 1) _ j (by omega) (by omega) hk
theorem G_gth_c {ki : Int → Int} {ni : Nat} {gp j : Int} (hj : 0 ≤ j ∧ j < (ni : Int)) (hk : ki j = 7) : A_gth ki (ni : Int) gp = 1 := by
  unfold A_gth
  exact G_gt_c _ 0 _ j hj.1 (by omega) (by omega)