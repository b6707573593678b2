/-! the class, written by wip/c1.py: 67.go -/
/-- how far a walk is: the rows, reads, checks, meetings -/
abbrev A_st : Type := (Int → Int) × Int × Int × Int
def A_up1 (ρ : Int → Int) (s v : Int) : Int → Int := fun j => if j = s then v else ρ j
/-- a row is read -/
def A_rd (hold : (Int → Int) → Bool × Int) (s r : Int) (S : A_st) : A_st := (A_up1 S.1 s r, S.2.1 + 1, S.2.2.1 + (hold (A_up1 S.1 s r)).2, S.2.2.2)
def A_inc (S : A_st) : A_st := (S.1, S.2.1, S.2.2.1, S.2.2.2 + 1)
/-- a seat's rows, one by one -/
def A_lp (most : Int) (hold : (Int → Int) → Bool × Int) (s : Int) (sub : A_st → A_st) : Nat → Int → A_st → A_st
  | 0, _, S => S
  | n + 1, r, S => if S.2.2.2 < most then A_lp most hold s sub n (r + 1) (if (hold (A_up1 S.1 s r)).1 = true then sub (A_rd hold s r S) else A_rd hold s r S) else S
/-- k seats from the place p on -/
def A_go (most : Int) (hold : Int → (Int → Int) → Bool × Int) (od rw : Int → Int) : Nat → Int → A_st → A_st
  | 0 => fun _ S => S
  | k + 1 => fun p S => A_lp most (hold p) (od p) (if k = 0 then A_inc else A_go most hold od rw k (p + 1)) (rw (od p)).toNat 0 S
/-- what a walk's cells hold -/
def A_Wt (w : P_Lw) (T : Nat) (σ : P_A) (ns : Int) (tb : Int → Nat) (rw : Int → Int) (vr : Int → Int → Int) (cl : Int → Int) (V : Int → Int → Int → Int) (cs : List A_cd) (wo : Int) (od : Int → Int) (most : Int) (S : A_st) : Prop :=
  A_S w T σ ns tb rw vr cl V cs wo S.1 ∧ A_O σ ns od ∧ σ T 4 = most ∧ σ T 5 = S.2.1 ∧ σ T 6 = S.2.2.1 ∧ σ T 7 = S.2.2.2 ∧ (0 ≤ S.2.2.2 ∧ S.2.2.2 ≤ 1000000000)
/-- only the walk's counts and rows have changed -/
def A_cn (T : Nat) (σ σ' : P_A) : Prop := ∀ a b, ¬ (a = T ∧ (b = 5 ∨ b = 6 ∨ b = 7)) → a ≠ T + 1 → σ' a b = σ a b
theorem A_cn_rf {T : Nat} {σ : P_A} : A_cn T σ σ := fun _ _ _ _ => rfl
theorem A_cn_tr {T : Nat} {σ σ1 σ2 : P_A} (h : A_cn T σ σ1) (h2 : A_cn T σ1 σ2) : A_cn T σ σ2 := fun a b x y => (h2 a b x y).trans (h a b x y)
section GO
variable {w : P_Lw} {T : Nat} {σ σ2 : P_A} {ns : Int} {tb : Int → Nat} {rw : Int → Int} {vr : Int → Int → Int} {cl : Int → Int} {V : Int → Int → Int → Int} {cs : List A_cd} {wo most : Int} {od : Int → Int} {S : A_st}
/-- the cells when a row of the seat s is read, ahead of the checks -/
theorem A_S_rd {s r : Int} (hT : 29 ≤ T ∧ T ≤ 48) (hW : A_Wt w T σ ns tb rw vr cl V cs wo od most S) (hs : 0 ≤ s ∧ s < 3) (hr : 0 ≤ r ∧ r ≤ 13) {v : Int} : A_S w T (P_u2 (P_u2 σ (T + 1) s.toNat r) T 5 v) ns tb rw vr cl V cs wo (A_up1 S.1 s r) := by
  obtain ⟨h1, h2, h4, h5, h6⟩ := hW.1
  refine ⟨A_V_cg (fun a b e => (P_u2_ne (by omega)).trans (P_u2_ne (by omega))) h1, A_X_cg (fun s a b => (h1.2.2 s a b).2.1.1) (fun a b e => (P_u2_ne (by omega)).trans (P_u2_ne (by omega))) h2, A_KL_cg ((P_u2_ne (by omega)).trans (P_u2_ne (by omega))) (fun a b e1 e2 => (P_u2_ne (by omega)).trans (P_u2_ne (by omega))) h4, ((P_u2_ne (by omega)).trans (P_u2_ne (by omega))).trans h5, fun j a b => ?_⟩
  rw [P_u2_ne (by omega)]
  unfold A_up1
  by_cases e : j = s
  · subst e
    rw [P_u2_at, if_pos rfl]
    exact ⟨rfl, hr⟩
  · rw [P_u2_ne (by omega), if_neg e]
    exact h6 j a b
theorem A_Wt_rd {s r : Int} {hold : (Int → Int) → Bool × Int} (hT : 29 ≤ T ∧ T ≤ 48) (hW : A_Wt w T σ ns tb rw vr cl V cs wo od most S) (hs : 0 ≤ s ∧ s < 3) (hr : 0 ≤ r ∧ r ≤ 13) (h : ∀ a b, ¬ (a = T ∧ b = 6) → σ2 a b = P_u2 (P_u2 σ (T + 1) s.toNat r) T 5 (S.2.1 + 1) a b) (h6 : σ2 T 6 = S.2.2.1 + (hold (A_up1 S.1 s r)).2) :
    A_Wt w T σ2 ns tb rw vr cl V cs wo od most (A_rd hold s r S) ∧ A_cn T σ σ2 := by
  have hS := A_S_rd (v := S.2.1 + 1) hT hW hs hr
  obtain ⟨-, g1, g2, g3, g4, g5, g6⟩ := hW
  refine ⟨⟨A_S_cg hT (fun a b e => h a b (by omega)) (h T 3 (by omega)) (fun b => h (T + 1) b (by omega)) hS, A_O_cg (fun b => (h 28 b (by omega)).trans ((P_u2_ne (by omega)).trans (P_u2_ne (by omega)))) g1, ((h T 4 (by omega)).trans ((P_u2_ne (by omega)).trans (P_u2_ne (by omega)))).trans g2, (h T 5 (by omega)).trans P_u2_at, h6, ((h T 7 (by omega)).trans ((P_u2_ne (by omega)).trans (P_u2_ne (by omega)))).trans g5, g6⟩, fun a b e1 e2 => ?_⟩
  exact (h a b (by omega)).trans ((P_u2_ne (by omega)).trans (P_u2_ne (by omega)))
theorem A_Wt_inc (hT : 29 ≤ T ∧ T ≤ 48) (hW : A_Wt w T σ ns tb rw vr cl V cs wo od most S) (hm : S.2.2.2 < 1000000000) : A_Wt w T (P_u2 σ T 7 (S.2.2.2 + 1)) ns tb rw vr cl V cs wo od most (A_inc S) ∧ A_cn T σ (P_u2 σ T 7 (S.2.2.2 + 1)) := by
  obtain ⟨g0, g1, g2, g3, g4, g5, g6⟩ := hW
  exact ⟨⟨A_S_cg hT (fun a b e => P_u2_ne (by omega)) (P_u2_ne (by omega)) (fun b => P_u2_ne (by omega)) g0, A_O_cg (fun b => P_u2_ne (by omega)) g1, (P_u2_ne (by omega)).trans g2, (P_u2_ne (by omega)).trans g3, (P_u2_ne (by omega)).trans g4, P_u2_at, by show 0 ≤ S.2.2.2 + 1 ∧ S.2.2.2 + 1 ≤ 1000000000; omega⟩, fun a b e1 e2 => P_u2_ne (by omega)⟩
/-- a meeting's own writes leave the walk as it is -/
theorem A_Wt_cg (hT : 29 ≤ T ∧ T ≤ 48) (hW : A_Wt w T σ ns tb rw vr cl V cs wo od most S) (h : ∀ a b, ¬ (29 ≤ a ∧ a ≤ 49) → σ2 a b = σ a b) (h1 : ∀ b, 3 ≤ b → b ≤ 7 → σ2 T b = σ T b) (h2 : ∀ b, σ2 (T + 1) b = σ (T + 1) b) : A_Wt w T σ2 ns tb rw vr cl V cs wo od most S := by
  obtain ⟨g0, g1, g2, g3, g4, g5, g6⟩ := hW
  exact ⟨A_S_cg hT h (h1 3 (by omega) (by omega)) h2 g0, A_O_cg (fun b => h 28 b (by omega)) g1, (h1 4 (by omega) (by omega)).trans g2, (h1 5 (by omega) (by omega)).trans g3, (h1 6 (by omega) (by omega)).trans g4, (h1 7 (by omega) (by omega)).trans g5, g6⟩
end GO
theorem A_rd_le {hold : (Int → Int) → Bool × Int} {s r : Int} {S : A_st} (h : ∀ ρ, 0 ≤ (hold ρ).2) : S.2.1 ≤ (A_rd hold s r S).2.1 ∧ S.2.2.1 ≤ (A_rd hold s r S).2.2.1 := by
  have := h (A_up1 S.1 s r)
  exact ⟨by show S.2.1 ≤ S.2.1 + 1; omega, by show S.2.2.1 ≤ S.2.2.1 + (hold (A_up1 S.1 s r)).2; omega⟩

set_option maxHeartbeats 1000000 in
theorem s_gl31 {w : P_Lw} (hw : P_Cw w) {d : Nat} {Q : P_R → P_A → Prop} {ns : Int} {tb : Int → Nat} {rw : Int → Int} {vr : Int → Int → Int} {cl : Int → Int} {V : Int → Int → Int → Int} {cs : List A_cd} {wo : Int} {od : Int → Int} {most : Int} (hwo1 : -1 ≤ wo ∧ wo ≤ 12) (hms : 0 ≤ most ∧ most ≤ 1000000000) (hok : A_oks ns cs) (htk : A_tks ns cl cs) {Inv : Int → Int → Int → P_A → Prop} (hI : ∀ rd ck mt rd' ck' σ σ', Inv rd ck mt σ → rd ≤ rd' → ck ≤ ck' → A_cn 31 σ σ' → Inv rd' ck' mt σ') {p : Int} (hp : 0 ≤ p ∧ p + 1 = ns) (hM : ∀ {d : Nat} {Q : P_R → P_A → Prop} (σ : P_A) (S : A_st), A_Wt w 31 σ ns tb rw vr cl V cs wo od most S → Inv S.2.1 S.2.2.1 (S.2.2.2 - 1) σ → (∀ σ', (∀ a b, ¬ (33 ≤ a ∧ a ≤ 39) → ¬ (a = 31 ∧ b = 14) → σ' a b = σ a b) → Inv S.2.1 S.2.2.1 S.2.2.2 σ' → Q (.inl none) σ') → P_aw w (d + 6) 9 0 [.ref (w.2.2 31)] [] σ Q) : ∀ (n : Nat) (σ : P_A) (r : Int) (S : A_st), A_Wt w 31 σ ns tb rw vr cl V cs wo od most S → Inv S.2.1 S.2.2.1 S.2.2.2 σ → 0 ≤ r → r + (n : Int) = rw (od p) → r ≤ 14 → (∀ σ', (∀ a b, ¬ (31 ≤ a ∧ a ≤ 39) → σ' a b = σ a b) → (∀ b, b = 15 ∨ b = 16 → σ' 31 b = σ 31 b) → A_Wt w 31 σ' ns tb rw vr cl V cs wo od most (A_lp most (fun ρ => A_hl (A_val V rw ρ) p wo cs 0) (od p) A_inc n r S) → Inv (A_lp most (fun ρ => A_hl (A_val V rw ρ) p wo cs 0) (od p) A_inc n r S).2.1 (A_lp most (fun ρ => A_hl (A_val V rw ρ) p wo cs 0) (od p) A_inc n r S).2.2.1 (A_lp most (fun ρ => A_hl (A_val V rw ρ) p wo cs 0) (od p) A_inc n r S).2.2.2 σ' → Q (.inl none) σ') → P_aw w (d + 7) 134 41 [.ref (w.2.2 31), P_z p, P_z (od p), P_z (rw (od p)), P_z r] [] σ Q := by
  intro n
  induction n with
  | zero =>
    intro σ r S hW hI0 hr hrn hr14 q
    obtain ⟨hS, hO, hms4, hrd, hck, hmt, hmr⟩ := id hW
    obtain ⟨hA, hX, hK, hwo, hρ⟩ := id hS
    have hns := hA.2.1
    have hod := (hO p (by omega) (by omega)).2
    have hrw := (hA.2.2 (od p) (by omega) (by omega)).2.2.2.1
    refine P_aw_op (L' := [.ref (w.2.2 31), P_z p, P_z (od p), P_z (rw (od p)), P_z r]) (st' := [P_z r]) P_i134_41 rfl (show P_aw _ _ _ 43 [.ref (w.2.2 31), P_z p, P_z (od p), P_z (rw (od p)), P_z r] [P_z r] _ _ from ?_)
    refine P_aw_op (L' := [.ref (w.2.2 31), P_z p, P_z (od p), P_z (rw (od p)), P_z r]) (st' := [P_z (rw (od p)), P_z r]) P_i134_43 rfl (show P_aw _ _ _ 44 [.ref (w.2.2 31), P_z p, P_z (od p), P_z (rw (od p)), P_z r] [P_z (rw (od p)), P_z r] _ _ from ?_)
    refine P_aw_ict P_i134_44 ⟨by omega, by omega⟩ ⟨by omega, by omega⟩ (P_ci_get (by omega)) (show P_aw _ _ _ 132 [.ref (w.2.2 31), P_z p, P_z (od p), P_z (rw (od p)), P_z r] [] _ _ from ?_)
    refine P_aw_end P_i134_132 rfl rfl (fun _ => rfl) rfl ?_
    exact q σ (fun _ _ _ => rfl) (fun _ _ => rfl) hW hI0
  | succ n ih =>
    intro σ r S hW hI0 hr hrn hr14 q
    obtain ⟨hS, hO, hms4, hrd, hck, hmt, hmr⟩ := id hW
    obtain ⟨hA, hX, hK, hwo, hρ⟩ := id hS
    have hns := hA.2.1
    have hod := (hO p (by omega) (by omega)).2
    have hrw := (hA.2.2 (od p) (by omega) (by omega)).2.2.2.1
    refine P_aw_op (L' := [.ref (w.2.2 31), P_z p, P_z (od p), P_z (rw (od p)), P_z r]) (st' := [P_z r]) P_i134_41 rfl (show P_aw _ _ _ 43 [.ref (w.2.2 31), P_z p, P_z (od p), P_z (rw (od p)), P_z r] [P_z r] _ _ from ?_)
    refine P_aw_op (L' := [.ref (w.2.2 31), P_z p, P_z (od p), P_z (rw (od p)), P_z r]) (st' := [P_z (rw (od p)), P_z r]) P_i134_43 rfl (show P_aw _ _ _ 44 [.ref (w.2.2 31), P_z p, P_z (od p), P_z (rw (od p)), P_z r] [P_z (rw (od p)), P_z r] _ _ from ?_)
    refine P_aw_icf P_i134_44 ⟨by omega, by omega⟩ ⟨by omega, by omega⟩ (P_ci_gef (by omega)) (show P_aw _ _ _ 47 [.ref (w.2.2 31), P_z p, P_z (od p), P_z (rw (od p)), P_z r] [] _ _ from ?_)
    refine P_aw_op (L' := [.ref (w.2.2 31), P_z p, P_z (od p), P_z (rw (od p)), P_z r]) (st' := [.ref (w.2.2 31)]) P_i134_47 rfl (show P_aw _ _ _ 48 [.ref (w.2.2 31), P_z p, P_z (od p), P_z (rw (od p)), P_z r] [.ref (w.2.2 31)] _ _ from ?_)
    refine P_aw_getv P_i134_48 (hw.2.1 31 (by decide)) (hw.s rfl) rfl rfl (hmt) (show P_aw _ _ _ 51 [.ref (w.2.2 31), P_z p, P_z (od p), P_z (rw (od p)), P_z r] [P_z S.2.2.2] _ _ from ?_)
    refine P_aw_op (L' := [.ref (w.2.2 31), P_z p, P_z (od p), P_z (rw (od p)), P_z r]) (st' := [.ref (w.2.2 31), P_z S.2.2.2]) P_i134_51 rfl (show P_aw _ _ _ 52 [.ref (w.2.2 31), P_z p, P_z (od p), P_z (rw (od p)), P_z r] [.ref (w.2.2 31), P_z S.2.2.2] _ _ from ?_)
    refine P_aw_getv P_i134_52 (hw.2.1 31 (by decide)) (hw.s rfl) rfl rfl (hms4) (show P_aw _ _ _ 55 [.ref (w.2.2 31), P_z p, P_z (od p), P_z (rw (od p)), P_z r] [P_z most, P_z S.2.2.2] _ _ from ?_)
    rcases Int.lt_or_le S.2.2.2 most with hc1 | hc1
    · refine P_aw_icf P_i134_55 ⟨by omega, by omega⟩ ⟨by omega, by omega⟩ (P_ci_gef (by omega)) (show P_aw _ _ _ 58 [.ref (w.2.2 31), P_z p, P_z (od p), P_z (rw (od p)), P_z r] [] _ _ from ?_)
      refine P_aw_op (L' := [.ref (w.2.2 31), P_z p, P_z (od p), P_z (rw (od p)), P_z r]) (st' := [.ref (w.2.2 31)]) P_i134_58 rfl (show P_aw _ _ _ 59 [.ref (w.2.2 31), P_z p, P_z (od p), P_z (rw (od p)), P_z r] [.ref (w.2.2 31)] _ _ from ?_)
      refine P_aw_getR P_i134_59 (hw.2.1 31 (by decide)) (hw.s rfl) rfl rfl (show P_aw _ _ _ 62 [.ref (w.2.2 31), P_z p, P_z (od p), P_z (rw (od p)), P_z r] [.ref (w.2.2 32)] _ _ from ?_)
      refine P_aw_op (L' := [.ref (w.2.2 31), P_z p, P_z (od p), P_z (rw (od p)), P_z r]) (st' := [P_z (od p), .ref (w.2.2 32)]) P_i134_62 rfl (show P_aw _ _ _ 63 [.ref (w.2.2 31), P_z p, P_z (od p), P_z (rw (od p)), P_z r] [P_z (od p), .ref (w.2.2 32)] _ _ from ?_)
      refine P_aw_op (L' := [.ref (w.2.2 31), P_z p, P_z (od p), P_z (rw (od p)), P_z r]) (st' := [P_z r, P_z (od p), .ref (w.2.2 32)]) P_i134_63 rfl (show P_aw _ _ _ 65 [.ref (w.2.2 31), P_z p, P_z (od p), P_z (rw (od p)), P_z r] [P_z r, P_z (od p), .ref (w.2.2 32)] _ _ from ?_)
      refine P_aw_call P_i134_65 rfl rfl (fun _ => rfl) rfl rfl rfl rfl (y2 := 179) (as := [.ref (w.2.2 32), P_z (od p), P_z r]) (r0 := []) (fun _ _ => rfl) (Nat.le_of_ble_eq_true rfl) (by decide) rfl (Nat.le_of_ble_eq_true rfl) (show P_aw _ _ _ 0 [.ref (w.2.2 32), P_z (od p), P_z r] [] _ _ from ?_)
      refine P_aw_op (L' := [.ref (w.2.2 32), P_z (od p), P_z r]) (st' := [P_z (od p)]) P_i179_0 rfl (show P_aw _ _ _ 1 [.ref (w.2.2 32), P_z (od p), P_z r] [P_z (od p)] _ _ from ?_)
      refine P_aw_izf P_i179_1 ⟨by omega, by omega⟩ (P_ci_ltf (by omega)) (show P_aw _ _ _ 4 [.ref (w.2.2 32), P_z (od p), P_z r] [] _ _ from ?_)
      refine P_aw_op (L' := [.ref (w.2.2 32), P_z (od p), P_z r]) (st' := [P_z (od p)]) P_i179_4 rfl (show P_aw _ _ _ 5 [.ref (w.2.2 32), P_z (od p), P_z r] [P_z (od p)] _ _ from ?_)
      refine P_aw_op (L' := [.ref (w.2.2 32), P_z (od p), P_z r]) (st' := [.ref (w.2.2 32), P_z (od p)]) P_i179_5 rfl (show P_aw _ _ _ 6 [.ref (w.2.2 32), P_z (od p), P_z r] [.ref (w.2.2 32), P_z (od p)] _ _ from ?_)
      refine P_aw_alen P_i179_6 (hw.2.1 32 (by decide)) (hw.s rfl) (show P_aw _ _ _ 7 [.ref (w.2.2 32), P_z (od p), P_z r] [P_z 3, P_z (od p)] _ _ from ?_)
      refine P_aw_icf P_i179_7 ⟨by omega, by omega⟩ ⟨by decide, by decide⟩ (P_ci_gef (by omega)) (show P_aw _ _ _ 10 [.ref (w.2.2 32), P_z (od p), P_z r] [] _ _ from ?_)
      refine P_aw_op (L' := [.ref (w.2.2 32), P_z (od p), P_z r]) (st' := [.ref (w.2.2 32)]) P_i179_10 rfl (show P_aw _ _ _ 11 [.ref (w.2.2 32), P_z (od p), P_z r] [.ref (w.2.2 32)] _ _ from ?_)
      refine P_aw_op (L' := [.ref (w.2.2 32), P_z (od p), P_z r]) (st' := [P_z (od p), .ref (w.2.2 32)]) P_i179_11 rfl (show P_aw _ _ _ 12 [.ref (w.2.2 32), P_z (od p), P_z r] [P_z (od p), .ref (w.2.2 32)] _ _ from ?_)
      refine P_aw_op (L' := [.ref (w.2.2 32), P_z (od p), P_z r]) (st' := [P_z r, P_z (od p), .ref (w.2.2 32)]) P_i179_12 rfl (show P_aw _ _ _ 13 [.ref (w.2.2 32), P_z (od p), P_z r] [P_z r, P_z (od p), .ref (w.2.2 32)] _ _ from ?_)
      refine P_aw_ast P_i179_13 (hw.2.1 32 (by decide)) (hw.s rfl) (by omega) (by omega) (by decide) (show P_aw _ _ _ 14 [.ref (w.2.2 32), P_z (od p), P_z r] [] _ _ from ?_)
      refine P_aw_end P_i179_14 rfl rfl (fun _ => rfl) rfl ?_
      show P_aw _ _ _ 68 [.ref (w.2.2 31), P_z p, P_z (od p), P_z (rw (od p)), P_z r] [] _ _
      refine P_aw_op (L' := [.ref (w.2.2 31), P_z p, P_z (od p), P_z (rw (od p)), P_z r]) (st' := [.ref (w.2.2 31)]) P_i134_68 rfl (show P_aw _ _ _ 69 [.ref (w.2.2 31), P_z p, P_z (od p), P_z (rw (od p)), P_z r] [.ref (w.2.2 31)] _ _ from ?_)
      refine P_aw_op (L' := [.ref (w.2.2 31), P_z p, P_z (od p), P_z (rw (od p)), P_z r]) (st' := [.ref (w.2.2 31), .ref (w.2.2 31)]) P_i134_69 rfl (show P_aw _ _ _ 70 [.ref (w.2.2 31), P_z p, P_z (od p), P_z (rw (od p)), P_z r] [.ref (w.2.2 31), .ref (w.2.2 31)] _ _ from ?_)
      refine P_aw_getv P_i134_70 (hw.2.1 31 (by decide)) (hw.s rfl) rfl rfl ((P_u2_ne (by omega)).trans (hrd)) (show P_aw _ _ _ 73 [.ref (w.2.2 31), P_z p, P_z (od p), P_z (rw (od p)), P_z r] [P_z S.2.1, .ref (w.2.2 31)] _ _ from ?_)
      refine P_aw_op (L' := [.ref (w.2.2 31), P_z p, P_z (od p), P_z (rw (od p)), P_z r]) (st' := [P_z 1, P_z S.2.1, .ref (w.2.2 31)]) P_i134_73 rfl (show P_aw _ _ _ 74 [.ref (w.2.2 31), P_z p, P_z (od p), P_z (rw (od p)), P_z r] [P_z 1, P_z S.2.1, .ref (w.2.2 31)] _ _ from ?_)
      refine P_aw_op (L' := [.ref (w.2.2 31), P_z p, P_z (od p), P_z (rw (od p)), P_z r]) (st' := [P_z (S.2.1 + 1), .ref (w.2.2 31)]) P_i134_74 P_o_iadd (show P_aw _ _ _ 75 [.ref (w.2.2 31), P_z p, P_z (od p), P_z (rw (od p)), P_z r] [P_z (S.2.1 + 1), .ref (w.2.2 31)] _ _ from ?_)
      refine P_aw_put P_i134_75 (hw.2.1 31 (by decide)) (hw.s rfl) rfl rfl rfl (show P_aw _ _ _ 78 [.ref (w.2.2 31), P_z p, P_z (od p), P_z (rw (od p)), P_z r] [] _ _ from ?_)
      refine P_aw_op (L' := [.ref (w.2.2 31), P_z p, P_z (od p), P_z (rw (od p)), P_z r]) (st' := [.ref (w.2.2 31)]) P_i134_78 rfl (show P_aw _ _ _ 79 [.ref (w.2.2 31), P_z p, P_z (od p), P_z (rw (od p)), P_z r] [.ref (w.2.2 31)] _ _ from ?_)
      refine P_aw_op (L' := [.ref (w.2.2 31), P_z p, P_z (od p), P_z (rw (od p)), P_z r]) (st' := [P_z p, .ref (w.2.2 31)]) P_i134_79 rfl (show P_aw _ _ _ 80 [.ref (w.2.2 31), P_z p, P_z (od p), P_z (rw (od p)), P_z r] [P_z p, .ref (w.2.2 31)] _ _ from ?_)
      refine P_aw_call P_i134_80 rfl rfl (fun _ => rfl) rfl rfl rfl rfl (y2 := 135) (as := [.ref (w.2.2 31), P_z p]) (r0 := []) (P_inv_v (hw.2.1 31 (by decide)) (hw.s rfl) rfl rfl) (Nat.le_of_ble_eq_true rfl) (by decide) rfl (Nat.le_of_ble_eq_true rfl) (s_ha31 hw (by omega) hwo1 hok htk (A_S_rd (by omega) hW (by omega) (by omega)) ((P_u2_ne (by omega)).trans ((P_u2_ne (by omega)).trans hck)) (fun σ2 k1 k2 => ?_))
      obtain ⟨hW1, hC1⟩ := A_Wt_rd (hold := (fun ρ => A_hl (A_val V rw ρ) p wo cs 0)) (by omega) hW (by omega) (by omega) k1 k2
      have hI1 := hI _ _ _ (A_rd (fun ρ => A_hl (A_val V rw ρ) p wo cs 0) (od p) r S).2.1 (A_rd (fun ρ => A_hl (A_val V rw ρ) p wo cs 0) (od p) r S).2.2.1 _ _ hI0 (A_rd_le (fun ρ => (A_hl_rg cs 0).1)).1 (A_rd_le (fun ρ => (A_hl_rg cs 0).1)).2 hC1
      have hF2 : ∀ a b, ¬ (31 ≤ a ∧ a ≤ 39) → σ2 a b = σ a b := fun a b h => hC1 a b (by omega) (by omega)
      have hG2 : ∀ b, b = 15 ∨ b = 16 → σ2 31 b = σ 31 b := fun b h => hC1 _ b (by omega) (by omega)
      have e0 : A_lp most (fun ρ => A_hl (A_val V rw ρ) p wo cs 0) (od p) A_inc (n + 1) r S = A_lp most (fun ρ => A_hl (A_val V rw ρ) p wo cs 0) (od p) A_inc n (r + 1) (if (A_hl (A_val V rw (A_up1 S.1 (od p) r)) p wo cs 0).1 = true then A_inc (A_rd (fun ρ => A_hl (A_val V rw ρ) p wo cs 0) (od p) r S) else A_rd (fun ρ => A_hl (A_val V rw ρ) p wo cs 0) (od p) r S) := if_pos (by omega)
      by_cases hb : (A_hl (A_val V rw (A_up1 S.1 (od p) r)) p wo cs 0).1 = true
      · rw [if_pos hb]
        show P_aw _ _ _ 83 [.ref (w.2.2 31), P_z p, P_z (od p), P_z (rw (od p)), P_z r] [P_z 1] _ _
        refine P_aw_izt P_i134_83 ⟨by decide, by decide⟩ (P_ci_net (by omega)) (show P_aw _ _ _ 89 [.ref (w.2.2 31), P_z p, P_z (od p), P_z (rw (od p)), P_z r] [] _ _ from ?_)
        refine P_aw_op (L' := [.ref (w.2.2 31), P_z p, P_z (od p), P_z (rw (od p)), P_z r]) (st' := [P_z p]) P_i134_89 rfl (show P_aw _ _ _ 90 [.ref (w.2.2 31), P_z p, P_z (od p), P_z (rw (od p)), P_z r] [P_z p] _ _ from ?_)
        refine P_aw_op (L' := [.ref (w.2.2 31), P_z p, P_z (od p), P_z (rw (od p)), P_z r]) (st' := [P_z 1, P_z p]) P_i134_90 rfl (show P_aw _ _ _ 91 [.ref (w.2.2 31), P_z p, P_z (od p), P_z (rw (od p)), P_z r] [P_z 1, P_z p] _ _ from ?_)
        refine P_aw_op (L' := [.ref (w.2.2 31), P_z p, P_z (od p), P_z (rw (od p)), P_z r]) (st' := [P_z (p + 1)]) P_i134_91 P_o_iadd (show P_aw _ _ _ 92 [.ref (w.2.2 31), P_z p, P_z (od p), P_z (rw (od p)), P_z r] [P_z (p + 1)] _ _ from ?_)
        refine P_aw_op (L' := [.ref (w.2.2 31), P_z p, P_z (od p), P_z (rw (od p)), P_z r]) (st' := [.ref (w.2.2 31), P_z (p + 1)]) P_i134_92 rfl (show P_aw _ _ _ 93 [.ref (w.2.2 31), P_z p, P_z (od p), P_z (rw (od p)), P_z r] [.ref (w.2.2 31), P_z (p + 1)] _ _ from ?_)
        refine P_aw_getR P_i134_93 (hw.2.1 31 (by decide)) (hw.s rfl) rfl rfl (show P_aw _ _ _ 96 [.ref (w.2.2 31), P_z p, P_z (od p), P_z (rw (od p)), P_z r] [.ref (w.2.2 6), P_z (p + 1)] _ _ from ?_)
        refine P_aw_call P_i134_96 rfl rfl (fun _ => rfl) rfl rfl rfl rfl (y2 := 30) (as := [.ref (w.2.2 6)]) (r0 := [P_z (p + 1)]) (P_inv_v (hw.2.1 6 (by decide)) (hw.s rfl) rfl rfl) (Nat.le_of_ble_eq_true rfl) (by decide) rfl (Nat.le_of_ble_eq_true rfl) (show P_aw _ _ _ 0 [.ref (w.2.2 6)] [] _ _ from ?_)
        refine P_aw_op (L' := [.ref (w.2.2 6)]) (st' := [.ref (w.2.2 6)]) P_i30_0 rfl (show P_aw _ _ _ 1 [.ref (w.2.2 6)] [.ref (w.2.2 6)] _ _ from ?_)
        refine P_aw_getv P_i30_1 (hw.2.1 6 (by decide)) (hw.s rfl) rfl rfl (hW1.1.1.1) (show P_aw _ _ _ 4 [.ref (w.2.2 6)] [P_z ns] _ _ from ?_)
        refine P_aw_end P_i30_4 rfl rfl (fun _ => rfl) rfl ?_
        show P_aw _ _ _ 99 [.ref (w.2.2 31), P_z p, P_z (od p), P_z (rw (od p)), P_z r] [P_z ns, P_z (p + 1)] _ _
        refine P_aw_ict P_i134_99 ⟨by omega, by omega⟩ ⟨by omega, by omega⟩ (P_ci_get (by omega)) (show P_aw _ _ _ 112 [.ref (w.2.2 31), P_z p, P_z (od p), P_z (rw (od p)), P_z r] [] _ _ from ?_)
        refine P_aw_op (L' := [.ref (w.2.2 31), P_z p, P_z (od p), P_z (rw (od p)), P_z r]) (st' := [.ref (w.2.2 31)]) P_i134_112 rfl (show P_aw _ _ _ 113 [.ref (w.2.2 31), P_z p, P_z (od p), P_z (rw (od p)), P_z r] [.ref (w.2.2 31)] _ _ from ?_)
        refine P_aw_op (L' := [.ref (w.2.2 31), P_z p, P_z (od p), P_z (rw (od p)), P_z r]) (st' := [.ref (w.2.2 31), .ref (w.2.2 31)]) P_i134_113 rfl (show P_aw _ _ _ 114 [.ref (w.2.2 31), P_z p, P_z (od p), P_z (rw (od p)), P_z r] [.ref (w.2.2 31), .ref (w.2.2 31)] _ _ from ?_)
        refine P_aw_getv P_i134_114 (hw.2.1 31 (by decide)) (hw.s rfl) rfl rfl (hW1.2.2.2.2.2.1) (show P_aw _ _ _ 117 [.ref (w.2.2 31), P_z p, P_z (od p), P_z (rw (od p)), P_z r] [P_z S.2.2.2, .ref (w.2.2 31)] _ _ from ?_)
        refine P_aw_op (L' := [.ref (w.2.2 31), P_z p, P_z (od p), P_z (rw (od p)), P_z r]) (st' := [P_z 1, P_z S.2.2.2, .ref (w.2.2 31)]) P_i134_117 rfl (show P_aw _ _ _ 118 [.ref (w.2.2 31), P_z p, P_z (od p), P_z (rw (od p)), P_z r] [P_z 1, P_z S.2.2.2, .ref (w.2.2 31)] _ _ from ?_)
        refine P_aw_op (L' := [.ref (w.2.2 31), P_z p, P_z (od p), P_z (rw (od p)), P_z r]) (st' := [P_z (S.2.2.2 + 1), .ref (w.2.2 31)]) P_i134_118 P_o_iadd (show P_aw _ _ _ 119 [.ref (w.2.2 31), P_z p, P_z (od p), P_z (rw (od p)), P_z r] [P_z (S.2.2.2 + 1), .ref (w.2.2 31)] _ _ from ?_)
        refine P_aw_put P_i134_119 (hw.2.1 31 (by decide)) (hw.s rfl) rfl rfl rfl (show P_aw _ _ _ 122 [.ref (w.2.2 31), P_z p, P_z (od p), P_z (rw (od p)), P_z r] [] _ _ from ?_)
        refine P_aw_op (L' := [.ref (w.2.2 31), P_z p, P_z (od p), P_z (rw (od p)), P_z r]) (st' := [.ref (w.2.2 31)]) P_i134_122 rfl (show P_aw _ _ _ 123 [.ref (w.2.2 31), P_z p, P_z (od p), P_z (rw (od p)), P_z r] [.ref (w.2.2 31)] _ _ from ?_)
        obtain ⟨hW3, hC3⟩ := A_Wt_inc (by omega) hW1 (show S.2.2.2 < 1000000000 by omega)
        have hI3 := hI _ _ _ _ _ _ _ hI1 (Int.le_refl _) (Int.le_refl _) hC3
        refine P_aw_call P_i134_123 rfl rfl (fun _ => rfl) rfl rfl rfl rfl (y2 := 9) (as := [.ref (w.2.2 31)]) (r0 := []) (P_inv_v (hw.2.1 31 (by decide)) (hw.s rfl) rfl rfl) (Nat.le_of_ble_eq_true rfl) (by decide) rfl (Nat.le_of_ble_eq_true rfl) (hM _ (A_inc (A_rd (fun ρ => A_hl (A_val V rw ρ) p wo cs 0) (od p) r S)) hW3 (by have e9 : (A_inc (A_rd (fun ρ => A_hl (A_val V rw ρ) p wo cs 0) (od p) r S)).2.2.2 - 1 = (A_rd (fun ρ => A_hl (A_val V rw ρ) p wo cs 0) (od p) r S).2.2.2 := (by show S.2.2.2 + 1 - 1 = S.2.2.2; omega); rw [e9]; exact hI3) (fun σ4 k3 hI4 => ?_))
        have hW4 := A_Wt_cg (by omega) hW3 (fun a b h => k3 a b (by omega) (by omega)) (fun b h h' => k3 _ b (by omega) (by omega)) (fun b => k3 _ b (by omega) (by omega))
        have hF4 : ∀ a b, ¬ (31 ≤ a ∧ a ≤ 39) → σ4 a b = σ a b := fun a b h => (k3 a b (by omega) (by omega)).trans ((P_u2_ne (by omega)).trans (hF2 a b h))
        have hG4 : ∀ b, b = 15 ∨ b = 16 → σ4 31 b = σ 31 b := fun b h => (k3 _ b (by omega) (by omega)).trans ((P_u2_ne (by omega)).trans (hG2 b h))
        show P_aw _ _ _ 126 [.ref (w.2.2 31), P_z p, P_z (od p), P_z (rw (od p)), P_z r] [] _ _
        refine P_aw_op (L' := [.ref (w.2.2 31), P_z p, P_z (od p), P_z (rw (od p)), P_z (r + 1)]) (st' := []) P_i134_126 (P_o_iinc rfl) (show P_aw _ _ _ 129 [.ref (w.2.2 31), P_z p, P_z (od p), P_z (rw (od p)), P_z (r + 1)] [] _ _ from ?_)
        refine P_aw_goto P_i134_129 (show P_aw _ _ _ 41 [.ref (w.2.2 31), P_z p, P_z (od p), P_z (rw (od p)), P_z (r + 1)] [] _ _ from ?_)
        rw [if_pos hb] at e0; exact ih σ4 (r + 1) _ hW4 hI4 (by omega) (by omega) (by omega) (fun σ' h1 h1' h2 h3 => q σ' (fun a b h => (h1 a b h).trans (hF4 a b h)) (fun b h => (h1' b h).trans (hG4 b h)) (by rw [e0]; exact h2) (by rw [e0]; exact h3))
      · rw [if_neg hb]
        show P_aw _ _ _ 83 [.ref (w.2.2 31), P_z p, P_z (od p), P_z (rw (od p)), P_z r] [P_z 0] _ _
        refine P_aw_izf P_i134_83 ⟨by decide, by decide⟩ (P_ci_nef (by omega)) (show P_aw _ _ _ 86 [.ref (w.2.2 31), P_z p, P_z (od p), P_z (rw (od p)), P_z r] [] _ _ from ?_)
        refine P_aw_goto P_i134_86 (show P_aw _ _ _ 126 [.ref (w.2.2 31), P_z p, P_z (od p), P_z (rw (od p)), P_z r] [] _ _ from ?_)
        refine P_aw_op (L' := [.ref (w.2.2 31), P_z p, P_z (od p), P_z (rw (od p)), P_z (r + 1)]) (st' := []) P_i134_126 (P_o_iinc rfl) (show P_aw _ _ _ 129 [.ref (w.2.2 31), P_z p, P_z (od p), P_z (rw (od p)), P_z (r + 1)] [] _ _ from ?_)
        refine P_aw_goto P_i134_129 (show P_aw _ _ _ 41 [.ref (w.2.2 31), P_z p, P_z (od p), P_z (rw (od p)), P_z (r + 1)] [] _ _ from ?_)
        rw [if_neg hb] at e0; exact ih σ2 (r + 1) _ hW1 hI1 (by omega) (by omega) (by omega) (fun σ' h1 h1' h2 h3 => q σ' (fun a b h => (h1 a b h).trans (hF2 a b h)) (fun b h => (h1' b h).trans (hG2 b h)) (by rw [e0]; exact h2) (by rw [e0]; exact h3))
    · refine P_aw_ict P_i134_55 ⟨by omega, by omega⟩ ⟨by omega, by omega⟩ (P_ci_get (by omega)) (show P_aw _ _ _ 132 [.ref (w.2.2 31), P_z p, P_z (od p), P_z (rw (od p)), P_z r] [] _ _ from ?_)
      refine P_aw_end P_i134_132 rfl rfl (fun _ => rfl) rfl ?_
      have e1 : A_lp most (fun ρ => A_hl (A_val V rw ρ) p wo cs 0) (od p) A_inc (n + 1) r S = S := if_neg (by omega); exact q σ (fun _ _ _ => rfl) (fun _ _ => rfl) (by rw [e1]; exact hW) (by rw [e1]; exact hI0)

set_option maxHeartbeats 1000000 in
theorem s_gi31 {w : P_Lw} (hw : P_Cw w) {d : Nat} {Q : P_R → P_A → Prop} {ns : Int} {tb : Int → Nat} {rw : Int → Int} {vr : Int → Int → Int} {cl : Int → Int} {V : Int → Int → Int → Int} {cs : List A_cd} {wo : Int} {od : Int → Int} {most : Int} (hwo1 : -1 ≤ wo ∧ wo ≤ 12) (hms : 0 ≤ most ∧ most ≤ 1000000000) (hok : A_oks ns cs) (htk : A_tks ns cl cs) {Inv : Int → Int → Int → P_A → Prop} (hI : ∀ rd ck mt rd' ck' σ σ', Inv rd ck mt σ → rd ≤ rd' → ck ≤ ck' → A_cn 31 σ σ' → Inv rd' ck' mt σ') {p : Int} (hp : 0 ≤ p ∧ p + 1 < ns) {k : Nat} (hsub : ∀ {Q : P_R → P_A → Prop} (σ : P_A) (S : A_st), A_Wt w 31 σ ns tb rw vr cl V cs wo od most S → Inv S.2.1 S.2.2.1 S.2.2.2 σ → (∀ σ', (∀ a b, ¬ (31 ≤ a ∧ a ≤ 39) → σ' a b = σ a b) → (∀ b, b = 15 ∨ b = 16 → σ' 31 b = σ 31 b) → A_Wt w 31 σ' ns tb rw vr cl V cs wo od most (A_go most (fun p ρ => A_hl (A_val V rw ρ) p wo cs 0) od rw k (p + 1) S) → Inv (A_go most (fun p ρ => A_hl (A_val V rw ρ) p wo cs 0) od rw k (p + 1) S).2.1 (A_go most (fun p ρ => A_hl (A_val V rw ρ) p wo cs 0) od rw k (p + 1) S).2.2.1 (A_go most (fun p ρ => A_hl (A_val V rw ρ) p wo cs 0) od rw k (p + 1) S).2.2.2 σ' → Q (.inl none) σ') → P_aw w (d + 6) 134 0 [.ref (w.2.2 31), P_z (p + 1), P_un, P_un, P_un] [] σ Q) : ∀ (n : Nat) (σ : P_A) (r : Int) (S : A_st), A_Wt w 31 σ ns tb rw vr cl V cs wo od most S → Inv S.2.1 S.2.2.1 S.2.2.2 σ → 0 ≤ r → r + (n : Int) = rw (od p) → r ≤ 14 → (∀ σ', (∀ a b, ¬ (31 ≤ a ∧ a ≤ 39) → σ' a b = σ a b) → (∀ b, b = 15 ∨ b = 16 → σ' 31 b = σ 31 b) → A_Wt w 31 σ' ns tb rw vr cl V cs wo od most (A_lp most (fun ρ => A_hl (A_val V rw ρ) p wo cs 0) (od p) (A_go most (fun p ρ => A_hl (A_val V rw ρ) p wo cs 0) od rw k (p + 1)) n r S) → Inv (A_lp most (fun ρ => A_hl (A_val V rw ρ) p wo cs 0) (od p) (A_go most (fun p ρ => A_hl (A_val V rw ρ) p wo cs 0) od rw k (p + 1)) n r S).2.1 (A_lp most (fun ρ => A_hl (A_val V rw ρ) p wo cs 0) (od p) (A_go most (fun p ρ => A_hl (A_val V rw ρ) p wo cs 0) od rw k (p + 1)) n r S).2.2.1 (A_lp most (fun ρ => A_hl (A_val V rw ρ) p wo cs 0) (od p) (A_go most (fun p ρ => A_hl (A_val V rw ρ) p wo cs 0) od rw k (p + 1)) n r S).2.2.2 σ' → Q (.inl none) σ') → P_aw w (d + 7) 134 41 [.ref (w.2.2 31), P_z p, P_z (od p), P_z (rw (od p)), P_z r] [] σ Q := by
  intro n
  induction n with
  | zero =>
    intro σ r S hW hI0 hr hrn hr14 q
    obtain ⟨hS, hO, hms4, hrd, hck, hmt, hmr⟩ := id hW
    obtain ⟨hA, hX, hK, hwo, hρ⟩ := id hS
    have hns := hA.2.1
    have hod := (hO p (by omega) (by omega)).2
    have hrw := (hA.2.2 (od p) (by omega) (by omega)).2.2.2.1
    refine P_aw_op (L' := [.ref (w.2.2 31), P_z p, P_z (od p), P_z (rw (od p)), P_z r]) (st' := [P_z r]) P_i134_41 rfl (show P_aw _ _ _ 43 [.ref (w.2.2 31), P_z p, P_z (od p), P_z (rw (od p)), P_z r] [P_z r] _ _ from ?_)
    refine P_aw_op (L' := [.ref (w.2.2 31), P_z p, P_z (od p), P_z (rw (od p)), P_z r]) (st' := [P_z (rw (od p)), P_z r]) P_i134_43 rfl (show P_aw _ _ _ 44 [.ref (w.2.2 31), P_z p, P_z (od p), P_z (rw (od p)), P_z r] [P_z (rw (od p)), P_z r] _ _ from ?_)
    refine P_aw_ict P_i134_44 ⟨by omega, by omega⟩ ⟨by omega, by omega⟩ (P_ci_get (by omega)) (show P_aw _ _ _ 132 [.ref (w.2.2 31), P_z p, P_z (od p), P_z (rw (od p)), P_z r] [] _ _ from ?_)
    refine P_aw_end P_i134_132 rfl rfl (fun _ => rfl) rfl ?_
    exact q σ (fun _ _ _ => rfl) (fun _ _ => rfl) hW hI0
  | succ n ih =>
    intro σ r S hW hI0 hr hrn hr14 q
    obtain ⟨hS, hO, hms4, hrd, hck, hmt, hmr⟩ := id hW
    obtain ⟨hA, hX, hK, hwo, hρ⟩ := id hS
    have hns := hA.2.1
    have hod := (hO p (by omega) (by omega)).2
    have hrw := (hA.2.2 (od p) (by omega) (by omega)).2.2.2.1
    refine P_aw_op (L' := [.ref (w.2.2 31), P_z p, P_z (od p), P_z (rw (od p)), P_z r]) (st' := [P_z r]) P_i134_41 rfl (show P_aw _ _ _ 43 [.ref (w.2.2 31), P_z p, P_z (od p), P_z (rw (od p)), P_z r] [P_z r] _ _ from ?_)
    refine P_aw_op (L' := [.ref (w.2.2 31), P_z p, P_z (od p), P_z (rw (od p)), P_z r]) (st' := [P_z (rw (od p)), P_z r]) P_i134_43 rfl (show P_aw _ _ _ 44 [.ref (w.2.2 31), P_z p, P_z (od p), P_z (rw (od p)), P_z r] [P_z (rw (od p)), P_z r] _ _ from ?_)
    refine P_aw_icf P_i134_44 ⟨by omega, by omega⟩ ⟨by omega, by omega⟩ (P_ci_gef (by omega)) (show P_aw _ _ _ 47 [.ref (w.2.2 31), P_z p, P_z (od p), P_z (rw (od p)), P_z r] [] _ _ from ?_)
    refine P_aw_op (L' := [.ref (w.2.2 31), P_z p, P_z (od p), P_z (rw (od p)), P_z r]) (st' := [.ref (w.2.2 31)]) P_i134_47 rfl (show P_aw _ _ _ 48 [.ref (w.2.2 31), P_z p, P_z (od p), P_z (rw (od p)), P_z r] [.ref (w.2.2 31)] _ _ from ?_)
    refine P_aw_getv P_i134_48 (hw.2.1 31 (by decide)) (hw.s rfl) rfl rfl (hmt) (show P_aw _ _ _ 51 [.ref (w.2.2 31), P_z p, P_z (od p), P_z (rw (od p)), P_z r] [P_z S.2.2.2] _ _ from ?_)
    refine P_aw_op (L' := [.ref (w.2.2 31), P_z p, P_z (od p), P_z (rw (od p)), P_z r]) (st' := [.ref (w.2.2 31), P_z S.2.2.2]) P_i134_51 rfl (show P_aw _ _ _ 52 [.ref (w.2.2 31), P_z p, P_z (od p), P_z (rw (od p)), P_z r] [.ref (w.2.2 31), P_z S.2.2.2] _ _ from ?_)
    refine P_aw_getv P_i134_52 (hw.2.1 31 (by decide)) (hw.s rfl) rfl rfl (hms4) (show P_aw _ _ _ 55 [.ref (w.2.2 31), P_z p, P_z (od p), P_z (rw (od p)), P_z r] [P_z most, P_z S.2.2.2] _ _ from ?_)
    rcases Int.lt_or_le S.2.2.2 most with hc1 | hc1
    · refine P_aw_icf P_i134_55 ⟨by omega, by omega⟩ ⟨by omega, by omega⟩ (P_ci_gef (by omega)) (show P_aw _ _ _ 58 [.ref (w.2.2 31), P_z p, P_z (od p), P_z (rw (od p)), P_z r] [] _ _ from ?_)
      refine P_aw_op (L' := [.ref (w.2.2 31), P_z p, P_z (od p), P_z (rw (od p)), P_z r]) (st' := [.ref (w.2.2 31)]) P_i134_58 rfl (show P_aw _ _ _ 59 [.ref (w.2.2 31), P_z p, P_z (od p), P_z (rw (od p)), P_z r] [.ref (w.2.2 31)] _ _ from ?_)
      refine P_aw_getR P_i134_59 (hw.2.1 31 (by decide)) (hw.s rfl) rfl rfl (show P_aw _ _ _ 62 [.ref (w.2.2 31), P_z p, P_z (od p), P_z (rw (od p)), P_z r] [.ref (w.2.2 32)] _ _ from ?_)
      refine P_aw_op (L' := [.ref (w.2.2 31), P_z p, P_z (od p), P_z (rw (od p)), P_z r]) (st' := [P_z (od p), .ref (w.2.2 32)]) P_i134_62 rfl (show P_aw _ _ _ 63 [.ref (w.2.2 31), P_z p, P_z (od p), P_z (rw (od p)), P_z r] [P_z (od p), .ref (w.2.2 32)] _ _ from ?_)
      refine P_aw_op (L' := [.ref (w.2.2 31), P_z p, P_z (od p), P_z (rw (od p)), P_z r]) (st' := [P_z r, P_z (od p), .ref (w.2.2 32)]) P_i134_63 rfl (show P_aw _ _ _ 65 [.ref (w.2.2 31), P_z p, P_z (od p), P_z (rw (od p)), P_z r] [P_z r, P_z (od p), .ref (w.2.2 32)] _ _ from ?_)
      refine P_aw_call P_i134_65 rfl rfl (fun _ => rfl) rfl rfl rfl rfl (y2 := 179) (as := [.ref (w.2.2 32), P_z (od p), P_z r]) (r0 := []) (fun _ _ => rfl) (Nat.le_of_ble_eq_true rfl) (by decide) rfl (Nat.le_of_ble_eq_true rfl) (show P_aw _ _ _ 0 [.ref (w.2.2 32), P_z (od p), P_z r] [] _ _ from ?_)
      refine P_aw_op (L' := [.ref (w.2.2 32), P_z (od p), P_z r]) (st' := [P_z (od p)]) P_i179_0 rfl (show P_aw _ _ _ 1 [.ref (w.2.2 32), P_z (od p), P_z r] [P_z (od p)] _ _ from ?_)
      refine P_aw_izf P_i179_1 ⟨by omega, by omega⟩ (P_ci_ltf (by omega)) (show P_aw _ _ _ 4 [.ref (w.2.2 32), P_z (od p), P_z r] [] _ _ from ?_)
      refine P_aw_op (L' := [.ref (w.2.2 32), P_z (od p), P_z r]) (st' := [P_z (od p)]) P_i179_4 rfl (show P_aw _ _ _ 5 [.ref (w.2.2 32), P_z (od p), P_z r] [P_z (od p)] _ _ from ?_)
      refine P_aw_op (L' := [.ref (w.2.2 32), P_z (od p), P_z r]) (st' := [.ref (w.2.2 32), P_z (od p)]) P_i179_5 rfl (show P_aw _ _ _ 6 [.ref (w.2.2 32), P_z (od p), P_z r] [.ref (w.2.2 32), P_z (od p)] _ _ from ?_)
      refine P_aw_alen P_i179_6 (hw.2.1 32 (by decide)) (hw.s rfl) (show P_aw _ _ _ 7 [.ref (w.2.2 32), P_z (od p), P_z r] [P_z 3, P_z (od p)] _ _ from ?_)
      refine P_aw_icf P_i179_7 ⟨by omega, by omega⟩ ⟨by decide, by decide⟩ (P_ci_gef (by omega)) (show P_aw _ _ _ 10 [.ref (w.2.2 32), P_z (od p), P_z r] [] _ _ from ?_)
      refine P_aw_op (L' := [.ref (w.2.2 32), P_z (od p), P_z r]) (st' := [.ref (w.2.2 32)]) P_i179_10 rfl (show P_aw _ _ _ 11 [.ref (w.2.2 32), P_z (od p), P_z r] [.ref (w.2.2 32)] _ _ from ?_)
      refine P_aw_op (L' := [.ref (w.2.2 32), P_z (od p), P_z r]) (st' := [P_z (od p), .ref (w.2.2 32)]) P_i179_11 rfl (show P_aw _ _ _ 12 [.ref (w.2.2 32), P_z (od p), P_z r] [P_z (od p), .ref (w.2.2 32)] _ _ from ?_)
      refine P_aw_op (L' := [.ref (w.2.2 32), P_z (od p), P_z r]) (st' := [P_z r, P_z (od p), .ref (w.2.2 32)]) P_i179_12 rfl (show P_aw _ _ _ 13 [.ref (w.2.2 32), P_z (od p), P_z r] [P_z r, P_z (od p), .ref (w.2.2 32)] _ _ from ?_)
      refine P_aw_ast P_i179_13 (hw.2.1 32 (by decide)) (hw.s rfl) (by omega) (by omega) (by decide) (show P_aw _ _ _ 14 [.ref (w.2.2 32), P_z (od p), P_z r] [] _ _ from ?_)
      refine P_aw_end P_i179_14 rfl rfl (fun _ => rfl) rfl ?_
      show P_aw _ _ _ 68 [.ref (w.2.2 31), P_z p, P_z (od p), P_z (rw (od p)), P_z r] [] _ _
      refine P_aw_op (L' := [.ref (w.2.2 31), P_z p, P_z (od p), P_z (rw (od p)), P_z r]) (st' := [.ref (w.2.2 31)]) P_i134_68 rfl (show P_aw _ _ _ 69 [.ref (w.2.2 31), P_z p, P_z (od p), P_z (rw (od p)), P_z r] [.ref (w.2.2 31)] _ _ from ?_)
      refine P_aw_op (L' := [.ref (w.2.2 31), P_z p, P_z (od p), P_z (rw (od p)), P_z r]) (st' := [.ref (w.2.2 31), .ref (w.2.2 31)]) P_i134_69 rfl (show P_aw _ _ _ 70 [.ref (w.2.2 31), P_z p, P_z (od p), P_z (rw (od p)), P_z r] [.ref (w.2.2 31), .ref (w.2.2 31)] _ _ from ?_)
      refine P_aw_getv P_i134_70 (hw.2.1 31 (by decide)) (hw.s rfl) rfl rfl ((P_u2_ne (by omega)).trans (hrd)) (show P_aw _ _ _ 73 [.ref (w.2.2 31), P_z p, P_z (od p), P_z (rw (od p)), P_z r] [P_z S.2.1, .ref (w.2.2 31)] _ _ from ?_)
      refine P_aw_op (L' := [.ref (w.2.2 31), P_z p, P_z (od p), P_z (rw (od p)), P_z r]) (st' := [P_z 1, P_z S.2.1, .ref (w.2.2 31)]) P_i134_73 rfl (show P_aw _ _ _ 74 [.ref (w.2.2 31), P_z p, P_z (od p), P_z (rw (od p)), P_z r] [P_z 1, P_z S.2.1, .ref (w.2.2 31)] _ _ from ?_)
      refine P_aw_op (L' := [.ref (w.2.2 31), P_z p, P_z (od p), P_z (rw (od p)), P_z r]) (st' := [P_z (S.2.1 + 1), .ref (w.2.2 31)]) P_i134_74 P_o_iadd (show P_aw _ _ _ 75 [.ref (w.2.2 31), P_z p, P_z (od p), P_z (rw (od p)), P_z r] [P_z (S.2.1 + 1), .ref (w.2.2 31)] _ _ from ?_)
      refine P_aw_put P_i134_75 (hw.2.1 31 (by decide)) (hw.s rfl) rfl rfl rfl (show P_aw _ _ _ 78 [.ref (w.2.2 31), P_z p, P_z (od p), P_z (rw (od p)), P_z r] [] _ _ from ?_)
      refine P_aw_op (L' := [.ref (w.2.2 31), P_z p, P_z (od p), P_z (rw (od p)), P_z r]) (st' := [.ref (w.2.2 31)]) P_i134_78 rfl (show P_aw _ _ _ 79 [.ref (w.2.2 31), P_z p, P_z (od p), P_z (rw (od p)), P_z r] [.ref (w.2.2 31)] _ _ from ?_)
      refine P_aw_op (L' := [.ref (w.2.2 31), P_z p, P_z (od p), P_z (rw (od p)), P_z r]) (st' := [P_z p, .ref (w.2.2 31)]) P_i134_79 rfl (show P_aw _ _ _ 80 [.ref (w.2.2 31), P_z p, P_z (od p), P_z (rw (od p)), P_z r] [P_z p, .ref (w.2.2 31)] _ _ from ?_)
      refine P_aw_call P_i134_80 rfl rfl (fun _ => rfl) rfl rfl rfl rfl (y2 := 135) (as := [.ref (w.2.2 31), P_z p]) (r0 := []) (P_inv_v (hw.2.1 31 (by decide)) (hw.s rfl) rfl rfl) (Nat.le_of_ble_eq_true rfl) (by decide) rfl (Nat.le_of_ble_eq_true rfl) (s_ha31 hw (by omega) hwo1 hok htk (A_S_rd (by omega) hW (by omega) (by omega)) ((P_u2_ne (by omega)).trans ((P_u2_ne (by omega)).trans hck)) (fun σ2 k1 k2 => ?_))
      obtain ⟨hW1, hC1⟩ := A_Wt_rd (hold := (fun ρ => A_hl (A_val V rw ρ) p wo cs 0)) (by omega) hW (by omega) (by omega) k1 k2
      have hI1 := hI _ _ _ (A_rd (fun ρ => A_hl (A_val V rw ρ) p wo cs 0) (od p) r S).2.1 (A_rd (fun ρ => A_hl (A_val V rw ρ) p wo cs 0) (od p) r S).2.2.1 _ _ hI0 (A_rd_le (fun ρ => (A_hl_rg cs 0).1)).1 (A_rd_le (fun ρ => (A_hl_rg cs 0).1)).2 hC1
      have hF2 : ∀ a b, ¬ (31 ≤ a ∧ a ≤ 39) → σ2 a b = σ a b := fun a b h => hC1 a b (by omega) (by omega)
      have hG2 : ∀ b, b = 15 ∨ b = 16 → σ2 31 b = σ 31 b := fun b h => hC1 _ b (by omega) (by omega)
      have e0 : A_lp most (fun ρ => A_hl (A_val V rw ρ) p wo cs 0) (od p) (A_go most (fun p ρ => A_hl (A_val V rw ρ) p wo cs 0) od rw k (p + 1)) (n + 1) r S = A_lp most (fun ρ => A_hl (A_val V rw ρ) p wo cs 0) (od p) (A_go most (fun p ρ => A_hl (A_val V rw ρ) p wo cs 0) od rw k (p + 1)) n (r + 1) (if (A_hl (A_val V rw (A_up1 S.1 (od p) r)) p wo cs 0).1 = true then (A_go most (fun p ρ => A_hl (A_val V rw ρ) p wo cs 0) od rw k (p + 1)) (A_rd (fun ρ => A_hl (A_val V rw ρ) p wo cs 0) (od p) r S) else A_rd (fun ρ => A_hl (A_val V rw ρ) p wo cs 0) (od p) r S) := if_pos (by omega)
      by_cases hb : (A_hl (A_val V rw (A_up1 S.1 (od p) r)) p wo cs 0).1 = true
      · rw [if_pos hb]
        show P_aw _ _ _ 83 [.ref (w.2.2 31), P_z p, P_z (od p), P_z (rw (od p)), P_z r] [P_z 1] _ _
        refine P_aw_izt P_i134_83 ⟨by decide, by decide⟩ (P_ci_net (by omega)) (show P_aw _ _ _ 89 [.ref (w.2.2 31), P_z p, P_z (od p), P_z (rw (od p)), P_z r] [] _ _ from ?_)
        refine P_aw_op (L' := [.ref (w.2.2 31), P_z p, P_z (od p), P_z (rw (od p)), P_z r]) (st' := [P_z p]) P_i134_89 rfl (show P_aw _ _ _ 90 [.ref (w.2.2 31), P_z p, P_z (od p), P_z (rw (od p)), P_z r] [P_z p] _ _ from ?_)
        refine P_aw_op (L' := [.ref (w.2.2 31), P_z p, P_z (od p), P_z (rw (od p)), P_z r]) (st' := [P_z 1, P_z p]) P_i134_90 rfl (show P_aw _ _ _ 91 [.ref (w.2.2 31), P_z p, P_z (od p), P_z (rw (od p)), P_z r] [P_z 1, P_z p] _ _ from ?_)
        refine P_aw_op (L' := [.ref (w.2.2 31), P_z p, P_z (od p), P_z (rw (od p)), P_z r]) (st' := [P_z (p + 1)]) P_i134_91 P_o_iadd (show P_aw _ _ _ 92 [.ref (w.2.2 31), P_z p, P_z (od p), P_z (rw (od p)), P_z r] [P_z (p + 1)] _ _ from ?_)
        refine P_aw_op (L' := [.ref (w.2.2 31), P_z p, P_z (od p), P_z (rw (od p)), P_z r]) (st' := [.ref (w.2.2 31), P_z (p + 1)]) P_i134_92 rfl (show P_aw _ _ _ 93 [.ref (w.2.2 31), P_z p, P_z (od p), P_z (rw (od p)), P_z r] [.ref (w.2.2 31), P_z (p + 1)] _ _ from ?_)
        refine P_aw_getR P_i134_93 (hw.2.1 31 (by decide)) (hw.s rfl) rfl rfl (show P_aw _ _ _ 96 [.ref (w.2.2 31), P_z p, P_z (od p), P_z (rw (od p)), P_z r] [.ref (w.2.2 6), P_z (p + 1)] _ _ from ?_)
        refine P_aw_call P_i134_96 rfl rfl (fun _ => rfl) rfl rfl rfl rfl (y2 := 30) (as := [.ref (w.2.2 6)]) (r0 := [P_z (p + 1)]) (P_inv_v (hw.2.1 6 (by decide)) (hw.s rfl) rfl rfl) (Nat.le_of_ble_eq_true rfl) (by decide) rfl (Nat.le_of_ble_eq_true rfl) (show P_aw _ _ _ 0 [.ref (w.2.2 6)] [] _ _ from ?_)
        refine P_aw_op (L' := [.ref (w.2.2 6)]) (st' := [.ref (w.2.2 6)]) P_i30_0 rfl (show P_aw _ _ _ 1 [.ref (w.2.2 6)] [.ref (w.2.2 6)] _ _ from ?_)
        refine P_aw_getv P_i30_1 (hw.2.1 6 (by decide)) (hw.s rfl) rfl rfl (hW1.1.1.1) (show P_aw _ _ _ 4 [.ref (w.2.2 6)] [P_z ns] _ _ from ?_)
        refine P_aw_end P_i30_4 rfl rfl (fun _ => rfl) rfl ?_
        show P_aw _ _ _ 99 [.ref (w.2.2 31), P_z p, P_z (od p), P_z (rw (od p)), P_z r] [P_z ns, P_z (p + 1)] _ _
        refine P_aw_icf P_i134_99 ⟨by omega, by omega⟩ ⟨by omega, by omega⟩ (P_ci_gef (by omega)) (show P_aw _ _ _ 102 [.ref (w.2.2 31), P_z p, P_z (od p), P_z (rw (od p)), P_z r] [] _ _ from ?_)
        refine P_aw_op (L' := [.ref (w.2.2 31), P_z p, P_z (od p), P_z (rw (od p)), P_z r]) (st' := [.ref (w.2.2 31)]) P_i134_102 rfl (show P_aw _ _ _ 103 [.ref (w.2.2 31), P_z p, P_z (od p), P_z (rw (od p)), P_z r] [.ref (w.2.2 31)] _ _ from ?_)
        refine P_aw_op (L' := [.ref (w.2.2 31), P_z p, P_z (od p), P_z (rw (od p)), P_z r]) (st' := [P_z p, .ref (w.2.2 31)]) P_i134_103 rfl (show P_aw _ _ _ 104 [.ref (w.2.2 31), P_z p, P_z (od p), P_z (rw (od p)), P_z r] [P_z p, .ref (w.2.2 31)] _ _ from ?_)
        refine P_aw_op (L' := [.ref (w.2.2 31), P_z p, P_z (od p), P_z (rw (od p)), P_z r]) (st' := [P_z 1, P_z p, .ref (w.2.2 31)]) P_i134_104 rfl (show P_aw _ _ _ 105 [.ref (w.2.2 31), P_z p, P_z (od p), P_z (rw (od p)), P_z r] [P_z 1, P_z p, .ref (w.2.2 31)] _ _ from ?_)
        refine P_aw_op (L' := [.ref (w.2.2 31), P_z p, P_z (od p), P_z (rw (od p)), P_z r]) (st' := [P_z (p + 1), .ref (w.2.2 31)]) P_i134_105 P_o_iadd (show P_aw _ _ _ 106 [.ref (w.2.2 31), P_z p, P_z (od p), P_z (rw (od p)), P_z r] [P_z (p + 1), .ref (w.2.2 31)] _ _ from ?_)
        refine P_aw_call P_i134_106 rfl rfl (fun _ => rfl) rfl rfl rfl rfl (y2 := 134) (as := [.ref (w.2.2 31), P_z (p + 1)]) (r0 := []) (P_inv_v (hw.2.1 31 (by decide)) (hw.s rfl) rfl rfl) (Nat.le_of_ble_eq_true rfl) (by decide) rfl (Nat.le_of_ble_eq_true rfl) (hsub _ (A_rd (fun ρ => A_hl (A_val V rw ρ) p wo cs 0) (od p) r S) hW1 hI1 (fun σ4 k3 k3' hW4 hI4 => ?_))
        have hF4 : ∀ a b, ¬ (31 ≤ a ∧ a ≤ 39) → σ4 a b = σ a b := fun a b h => (k3 a b h).trans (hF2 a b h)
        have hG4 : ∀ b, b = 15 ∨ b = 16 → σ4 31 b = σ 31 b := fun b h => (k3' b h).trans (hG2 b h)
        show P_aw _ _ _ 109 [.ref (w.2.2 31), P_z p, P_z (od p), P_z (rw (od p)), P_z r] [] _ _
        refine P_aw_goto P_i134_109 (show P_aw _ _ _ 126 [.ref (w.2.2 31), P_z p, P_z (od p), P_z (rw (od p)), P_z r] [] _ _ from ?_)
        refine P_aw_op (L' := [.ref (w.2.2 31), P_z p, P_z (od p), P_z (rw (od p)), P_z (r + 1)]) (st' := []) P_i134_126 (P_o_iinc rfl) (show P_aw _ _ _ 129 [.ref (w.2.2 31), P_z p, P_z (od p), P_z (rw (od p)), P_z (r + 1)] [] _ _ from ?_)
        refine P_aw_goto P_i134_129 (show P_aw _ _ _ 41 [.ref (w.2.2 31), P_z p, P_z (od p), P_z (rw (od p)), P_z (r + 1)] [] _ _ from ?_)
        rw [if_pos hb] at e0; exact ih σ4 (r + 1) _ hW4 hI4 (by omega) (by omega) (by omega) (fun σ' h1 h1' h2 h3 => q σ' (fun a b h => (h1 a b h).trans (hF4 a b h)) (fun b h => (h1' b h).trans (hG4 b h)) (by rw [e0]; exact h2) (by rw [e0]; exact h3))
      · rw [if_neg hb]
        show P_aw _ _ _ 83 [.ref (w.2.2 31), P_z p, P_z (od p), P_z (rw (od p)), P_z r] [P_z 0] _ _
        refine P_aw_izf P_i134_83 ⟨by decide, by decide⟩ (P_ci_nef (by omega)) (show P_aw _ _ _ 86 [.ref (w.2.2 31), P_z p, P_z (od p), P_z (rw (od p)), P_z r] [] _ _ from ?_)
        refine P_aw_goto P_i134_86 (show P_aw _ _ _ 126 [.ref (w.2.2 31), P_z p, P_z (od p), P_z (rw (od p)), P_z r] [] _ _ from ?_)
        refine P_aw_op (L' := [.ref (w.2.2 31), P_z p, P_z (od p), P_z (rw (od p)), P_z (r + 1)]) (st' := []) P_i134_126 (P_o_iinc rfl) (show P_aw _ _ _ 129 [.ref (w.2.2 31), P_z p, P_z (od p), P_z (rw (od p)), P_z (r + 1)] [] _ _ from ?_)
        refine P_aw_goto P_i134_129 (show P_aw _ _ _ 41 [.ref (w.2.2 31), P_z p, P_z (od p), P_z (rw (od p)), P_z (r + 1)] [] _ _ from ?_)
        rw [if_neg hb] at e0; exact ih σ2 (r + 1) _ hW1 hI1 (by omega) (by omega) (by omega) (fun σ' h1 h1' h2 h3 => q σ' (fun a b h => (h1 a b h).trans (hF2 a b h)) (fun b h => (h1' b h).trans (hG2 b h)) (by rw [e0]; exact h2) (by rw [e0]; exact h3))
    · refine P_aw_ict P_i134_55 ⟨by omega, by omega⟩ ⟨by omega, by omega⟩ (P_ci_get (by omega)) (show P_aw _ _ _ 132 [.ref (w.2.2 31), P_z p, P_z (od p), P_z (rw (od p)), P_z r] [] _ _ from ?_)
      refine P_aw_end P_i134_132 rfl rfl (fun _ => rfl) rfl ?_
      have e1 : A_lp most (fun ρ => A_hl (A_val V rw ρ) p wo cs 0) (od p) (A_go most (fun p ρ => A_hl (A_val V rw ρ) p wo cs 0) od rw k (p + 1)) (n + 1) r S = S := if_neg (by omega); exact q σ (fun _ _ _ => rfl) (fun _ _ => rfl) (by rw [e1]; exact hW) (by rw [e1]; exact hI0)

set_option maxHeartbeats 1000000 in
theorem s_gl42 {w : P_Lw} (hw : P_Cw w) {d : Nat} {Q : P_R → P_A → Prop} {ns : Int} {tb : Int → Nat} {rw : Int → Int} {vr : Int → Int → Int} {cl : Int → Int} {V : Int → Int → Int → Int} {cs : List A_cd} {wo : Int} {od : Int → Int} {most : Int} (hl42 : w.2.1 42 = true) (hl43 : w.2.1 43 = true) (hwo1 : -1 ≤ wo ∧ wo ≤ 12) (hms : 0 ≤ most ∧ most ≤ 1000000000) (hok : A_oks ns cs) (htk : A_tks ns cl cs) {Inv : Int → Int → Int → P_A → Prop} (hI : ∀ rd ck mt rd' ck' σ σ', Inv rd ck mt σ → rd ≤ rd' → ck ≤ ck' → A_cn 42 σ σ' → Inv rd' ck' mt σ') {p : Int} (hp : 0 ≤ p ∧ p + 1 = ns) (hM : ∀ {d : Nat} {Q : P_R → P_A → Prop} (σ : P_A) (S : A_st), A_Wt w 42 σ ns tb rw vr cl V cs wo od most S → Inv S.2.1 S.2.2.1 (S.2.2.2 - 1) σ → (∀ σ', (∀ a b, σ' a b = σ a b) → Inv S.2.1 S.2.2.1 S.2.2.2 σ' → Q (.inl none) σ') → P_aw w (d + 6) 21 0 [.ref (w.2.2 42)] [] σ Q) : ∀ (n : Nat) (σ : P_A) (r : Int) (S : A_st), A_Wt w 42 σ ns tb rw vr cl V cs wo od most S → Inv S.2.1 S.2.2.1 S.2.2.2 σ → 0 ≤ r → r + (n : Int) = rw (od p) → r ≤ 14 → (∀ σ', (∀ a b, ¬ (42 ≤ a ∧ a ≤ 43) → σ' a b = σ a b) → (∀ b, b = 15 ∨ b = 16 → σ' 42 b = σ 42 b) → A_Wt w 42 σ' ns tb rw vr cl V cs wo od most (A_lp most (fun ρ => A_hl (A_val V rw ρ) p wo cs 0) (od p) A_inc n r S) → Inv (A_lp most (fun ρ => A_hl (A_val V rw ρ) p wo cs 0) (od p) A_inc n r S).2.1 (A_lp most (fun ρ => A_hl (A_val V rw ρ) p wo cs 0) (od p) A_inc n r S).2.2.1 (A_lp most (fun ρ => A_hl (A_val V rw ρ) p wo cs 0) (od p) A_inc n r S).2.2.2 σ' → Q (.inl none) σ') → P_aw w (d + 7) 134 41 [.ref (w.2.2 42), P_z p, P_z (od p), P_z (rw (od p)), P_z r] [] σ Q := by
  intro n
  induction n with
  | zero =>
    intro σ r S hW hI0 hr hrn hr14 q
    obtain ⟨hS, hO, hms4, hrd, hck, hmt, hmr⟩ := id hW
    obtain ⟨hA, hX, hK, hwo, hρ⟩ := id hS
    have hns := hA.2.1
    have hod := (hO p (by omega) (by omega)).2
    have hrw := (hA.2.2 (od p) (by omega) (by omega)).2.2.2.1
    refine P_aw_op (L' := [.ref (w.2.2 42), P_z p, P_z (od p), P_z (rw (od p)), P_z r]) (st' := [P_z r]) P_i134_41 rfl (show P_aw _ _ _ 43 [.ref (w.2.2 42), P_z p, P_z (od p), P_z (rw (od p)), P_z r] [P_z r] _ _ from ?_)
    refine P_aw_op (L' := [.ref (w.2.2 42), P_z p, P_z (od p), P_z (rw (od p)), P_z r]) (st' := [P_z (rw (od p)), P_z r]) P_i134_43 rfl (show P_aw _ _ _ 44 [.ref (w.2.2 42), P_z p, P_z (od p), P_z (rw (od p)), P_z r] [P_z (rw (od p)), P_z r] _ _ from ?_)
    refine P_aw_ict P_i134_44 ⟨by omega, by omega⟩ ⟨by omega, by omega⟩ (P_ci_get (by omega)) (show P_aw _ _ _ 132 [.ref (w.2.2 42), P_z p, P_z (od p), P_z (rw (od p)), P_z r] [] _ _ from ?_)
    refine P_aw_end P_i134_132 rfl rfl (fun _ => rfl) rfl ?_
    exact q σ (fun _ _ _ => rfl) (fun _ _ => rfl) hW hI0
  | succ n ih =>
    intro σ r S hW hI0 hr hrn hr14 q
    obtain ⟨hS, hO, hms4, hrd, hck, hmt, hmr⟩ := id hW
    obtain ⟨hA, hX, hK, hwo, hρ⟩ := id hS
    have hns := hA.2.1
    have hod := (hO p (by omega) (by omega)).2
    have hrw := (hA.2.2 (od p) (by omega) (by omega)).2.2.2.1
    refine P_aw_op (L' := [.ref (w.2.2 42), P_z p, P_z (od p), P_z (rw (od p)), P_z r]) (st' := [P_z r]) P_i134_41 rfl (show P_aw _ _ _ 43 [.ref (w.2.2 42), P_z p, P_z (od p), P_z (rw (od p)), P_z r] [P_z r] _ _ from ?_)
    refine P_aw_op (L' := [.ref (w.2.2 42), P_z p, P_z (od p), P_z (rw (od p)), P_z r]) (st' := [P_z (rw (od p)), P_z r]) P_i134_43 rfl (show P_aw _ _ _ 44 [.ref (w.2.2 42), P_z p, P_z (od p), P_z (rw (od p)), P_z r] [P_z (rw (od p)), P_z r] _ _ from ?_)
    refine P_aw_icf P_i134_44 ⟨by omega, by omega⟩ ⟨by omega, by omega⟩ (P_ci_gef (by omega)) (show P_aw _ _ _ 47 [.ref (w.2.2 42), P_z p, P_z (od p), P_z (rw (od p)), P_z r] [] _ _ from ?_)
    refine P_aw_op (L' := [.ref (w.2.2 42), P_z p, P_z (od p), P_z (rw (od p)), P_z r]) (st' := [.ref (w.2.2 42)]) P_i134_47 rfl (show P_aw _ _ _ 48 [.ref (w.2.2 42), P_z p, P_z (od p), P_z (rw (od p)), P_z r] [.ref (w.2.2 42)] _ _ from ?_)
    refine P_aw_getv P_i134_48 hl42 (hw.s rfl) rfl rfl (hmt) (show P_aw _ _ _ 51 [.ref (w.2.2 42), P_z p, P_z (od p), P_z (rw (od p)), P_z r] [P_z S.2.2.2] _ _ from ?_)
    refine P_aw_op (L' := [.ref (w.2.2 42), P_z p, P_z (od p), P_z (rw (od p)), P_z r]) (st' := [.ref (w.2.2 42), P_z S.2.2.2]) P_i134_51 rfl (show P_aw _ _ _ 52 [.ref (w.2.2 42), P_z p, P_z (od p), P_z (rw (od p)), P_z r] [.ref (w.2.2 42), P_z S.2.2.2] _ _ from ?_)
    refine P_aw_getv P_i134_52 hl42 (hw.s rfl) rfl rfl (hms4) (show P_aw _ _ _ 55 [.ref (w.2.2 42), P_z p, P_z (od p), P_z (rw (od p)), P_z r] [P_z most, P_z S.2.2.2] _ _ from ?_)
    rcases Int.lt_or_le S.2.2.2 most with hc1 | hc1
    · refine P_aw_icf P_i134_55 ⟨by omega, by omega⟩ ⟨by omega, by omega⟩ (P_ci_gef (by omega)) (show P_aw _ _ _ 58 [.ref (w.2.2 42), P_z p, P_z (od p), P_z (rw (od p)), P_z r] [] _ _ from ?_)
      refine P_aw_op (L' := [.ref (w.2.2 42), P_z p, P_z (od p), P_z (rw (od p)), P_z r]) (st' := [.ref (w.2.2 42)]) P_i134_58 rfl (show P_aw _ _ _ 59 [.ref (w.2.2 42), P_z p, P_z (od p), P_z (rw (od p)), P_z r] [.ref (w.2.2 42)] _ _ from ?_)
      refine P_aw_getR P_i134_59 hl42 (hw.s rfl) rfl rfl (show P_aw _ _ _ 62 [.ref (w.2.2 42), P_z p, P_z (od p), P_z (rw (od p)), P_z r] [.ref (w.2.2 43)] _ _ from ?_)
      refine P_aw_op (L' := [.ref (w.2.2 42), P_z p, P_z (od p), P_z (rw (od p)), P_z r]) (st' := [P_z (od p), .ref (w.2.2 43)]) P_i134_62 rfl (show P_aw _ _ _ 63 [.ref (w.2.2 42), P_z p, P_z (od p), P_z (rw (od p)), P_z r] [P_z (od p), .ref (w.2.2 43)] _ _ from ?_)
      refine P_aw_op (L' := [.ref (w.2.2 42), P_z p, P_z (od p), P_z (rw (od p)), P_z r]) (st' := [P_z r, P_z (od p), .ref (w.2.2 43)]) P_i134_63 rfl (show P_aw _ _ _ 65 [.ref (w.2.2 42), P_z p, P_z (od p), P_z (rw (od p)), P_z r] [P_z r, P_z (od p), .ref (w.2.2 43)] _ _ from ?_)
      refine P_aw_call P_i134_65 rfl rfl (fun _ => rfl) rfl rfl rfl rfl (y2 := 179) (as := [.ref (w.2.2 43), P_z (od p), P_z r]) (r0 := []) (fun _ _ => rfl) (Nat.le_of_ble_eq_true rfl) (by decide) rfl (Nat.le_of_ble_eq_true rfl) (show P_aw _ _ _ 0 [.ref (w.2.2 43), P_z (od p), P_z r] [] _ _ from ?_)
      refine P_aw_op (L' := [.ref (w.2.2 43), P_z (od p), P_z r]) (st' := [P_z (od p)]) P_i179_0 rfl (show P_aw _ _ _ 1 [.ref (w.2.2 43), P_z (od p), P_z r] [P_z (od p)] _ _ from ?_)
      refine P_aw_izf P_i179_1 ⟨by omega, by omega⟩ (P_ci_ltf (by omega)) (show P_aw _ _ _ 4 [.ref (w.2.2 43), P_z (od p), P_z r] [] _ _ from ?_)
      refine P_aw_op (L' := [.ref (w.2.2 43), P_z (od p), P_z r]) (st' := [P_z (od p)]) P_i179_4 rfl (show P_aw _ _ _ 5 [.ref (w.2.2 43), P_z (od p), P_z r] [P_z (od p)] _ _ from ?_)
      refine P_aw_op (L' := [.ref (w.2.2 43), P_z (od p), P_z r]) (st' := [.ref (w.2.2 43), P_z (od p)]) P_i179_5 rfl (show P_aw _ _ _ 6 [.ref (w.2.2 43), P_z (od p), P_z r] [.ref (w.2.2 43), P_z (od p)] _ _ from ?_)
      refine P_aw_alen P_i179_6 hl43 (hw.s rfl) (show P_aw _ _ _ 7 [.ref (w.2.2 43), P_z (od p), P_z r] [P_z 3, P_z (od p)] _ _ from ?_)
      refine P_aw_icf P_i179_7 ⟨by omega, by omega⟩ ⟨by decide, by decide⟩ (P_ci_gef (by omega)) (show P_aw _ _ _ 10 [.ref (w.2.2 43), P_z (od p), P_z r] [] _ _ from ?_)
      refine P_aw_op (L' := [.ref (w.2.2 43), P_z (od p), P_z r]) (st' := [.ref (w.2.2 43)]) P_i179_10 rfl (show P_aw _ _ _ 11 [.ref (w.2.2 43), P_z (od p), P_z r] [.ref (w.2.2 43)] _ _ from ?_)
      refine P_aw_op (L' := [.ref (w.2.2 43), P_z (od p), P_z r]) (st' := [P_z (od p), .ref (w.2.2 43)]) P_i179_11 rfl (show P_aw _ _ _ 12 [.ref (w.2.2 43), P_z (od p), P_z r] [P_z (od p), .ref (w.2.2 43)] _ _ from ?_)
      refine P_aw_op (L' := [.ref (w.2.2 43), P_z (od p), P_z r]) (st' := [P_z r, P_z (od p), .ref (w.2.2 43)]) P_i179_12 rfl (show P_aw _ _ _ 13 [.ref (w.2.2 43), P_z (od p), P_z r] [P_z r, P_z (od p), .ref (w.2.2 43)] _ _ from ?_)
      refine P_aw_ast P_i179_13 hl43 (hw.s rfl) (by omega) (by omega) (by decide) (show P_aw _ _ _ 14 [.ref (w.2.2 43), P_z (od p), P_z r] [] _ _ from ?_)
      refine P_aw_end P_i179_14 rfl rfl (fun _ => rfl) rfl ?_
      show P_aw _ _ _ 68 [.ref (w.2.2 42), P_z p, P_z (od p), P_z (rw (od p)), P_z r] [] _ _
      refine P_aw_op (L' := [.ref (w.2.2 42), P_z p, P_z (od p), P_z (rw (od p)), P_z r]) (st' := [.ref (w.2.2 42)]) P_i134_68 rfl (show P_aw _ _ _ 69 [.ref (w.2.2 42), P_z p, P_z (od p), P_z (rw (od p)), P_z r] [.ref (w.2.2 42)] _ _ from ?_)
      refine P_aw_op (L' := [.ref (w.2.2 42), P_z p, P_z (od p), P_z (rw (od p)), P_z r]) (st' := [.ref (w.2.2 42), .ref (w.2.2 42)]) P_i134_69 rfl (show P_aw _ _ _ 70 [.ref (w.2.2 42), P_z p, P_z (od p), P_z (rw (od p)), P_z r] [.ref (w.2.2 42), .ref (w.2.2 42)] _ _ from ?_)
      refine P_aw_getv P_i134_70 hl42 (hw.s rfl) rfl rfl ((P_u2_ne (by omega)).trans (hrd)) (show P_aw _ _ _ 73 [.ref (w.2.2 42), P_z p, P_z (od p), P_z (rw (od p)), P_z r] [P_z S.2.1, .ref (w.2.2 42)] _ _ from ?_)
      refine P_aw_op (L' := [.ref (w.2.2 42), P_z p, P_z (od p), P_z (rw (od p)), P_z r]) (st' := [P_z 1, P_z S.2.1, .ref (w.2.2 42)]) P_i134_73 rfl (show P_aw _ _ _ 74 [.ref (w.2.2 42), P_z p, P_z (od p), P_z (rw (od p)), P_z r] [P_z 1, P_z S.2.1, .ref (w.2.2 42)] _ _ from ?_)
      refine P_aw_op (L' := [.ref (w.2.2 42), P_z p, P_z (od p), P_z (rw (od p)), P_z r]) (st' := [P_z (S.2.1 + 1), .ref (w.2.2 42)]) P_i134_74 P_o_iadd (show P_aw _ _ _ 75 [.ref (w.2.2 42), P_z p, P_z (od p), P_z (rw (od p)), P_z r] [P_z (S.2.1 + 1), .ref (w.2.2 42)] _ _ from ?_)
      refine P_aw_put P_i134_75 hl42 (hw.s rfl) rfl rfl rfl (show P_aw _ _ _ 78 [.ref (w.2.2 42), P_z p, P_z (od p), P_z (rw (od p)), P_z r] [] _ _ from ?_)
      refine P_aw_op (L' := [.ref (w.2.2 42), P_z p, P_z (od p), P_z (rw (od p)), P_z r]) (st' := [.ref (w.2.2 42)]) P_i134_78 rfl (show P_aw _ _ _ 79 [.ref (w.2.2 42), P_z p, P_z (od p), P_z (rw (od p)), P_z r] [.ref (w.2.2 42)] _ _ from ?_)
      refine P_aw_op (L' := [.ref (w.2.2 42), P_z p, P_z (od p), P_z (rw (od p)), P_z r]) (st' := [P_z p, .ref (w.2.2 42)]) P_i134_79 rfl (show P_aw _ _ _ 80 [.ref (w.2.2 42), P_z p, P_z (od p), P_z (rw (od p)), P_z r] [P_z p, .ref (w.2.2 42)] _ _ from ?_)
      refine P_aw_call P_i134_80 rfl rfl (fun _ => rfl) rfl rfl rfl rfl (y2 := 135) (as := [.ref (w.2.2 42), P_z p]) (r0 := []) (P_inv_v hl42 (hw.s rfl) rfl rfl) (Nat.le_of_ble_eq_true rfl) (by decide) rfl (Nat.le_of_ble_eq_true rfl) (s_ha42 hw hl42 hl43 (by omega) hwo1 hok htk (A_S_rd (by omega) hW (by omega) (by omega)) ((P_u2_ne (by omega)).trans ((P_u2_ne (by omega)).trans hck)) (fun σ2 k1 k2 => ?_))
      obtain ⟨hW1, hC1⟩ := A_Wt_rd (hold := (fun ρ => A_hl (A_val V rw ρ) p wo cs 0)) (by omega) hW (by omega) (by omega) k1 k2
      have hI1 := hI _ _ _ (A_rd (fun ρ => A_hl (A_val V rw ρ) p wo cs 0) (od p) r S).2.1 (A_rd (fun ρ => A_hl (A_val V rw ρ) p wo cs 0) (od p) r S).2.2.1 _ _ hI0 (A_rd_le (fun ρ => (A_hl_rg cs 0).1)).1 (A_rd_le (fun ρ => (A_hl_rg cs 0).1)).2 hC1
      have hF2 : ∀ a b, ¬ (42 ≤ a ∧ a ≤ 43) → σ2 a b = σ a b := fun a b h => hC1 a b (by omega) (by omega)
      have hG2 : ∀ b, b = 15 ∨ b = 16 → σ2 42 b = σ 42 b := fun b h => hC1 _ b (by omega) (by omega)
      have e0 : A_lp most (fun ρ => A_hl (A_val V rw ρ) p wo cs 0) (od p) A_inc (n + 1) r S = A_lp most (fun ρ => A_hl (A_val V rw ρ) p wo cs 0) (od p) A_inc n (r + 1) (if (A_hl (A_val V rw (A_up1 S.1 (od p) r)) p wo cs 0).1 = true then A_inc (A_rd (fun ρ => A_hl (A_val V rw ρ) p wo cs 0) (od p) r S) else A_rd (fun ρ => A_hl (A_val V rw ρ) p wo cs 0) (od p) r S) := if_pos (by omega)
      by_cases hb : (A_hl (A_val V rw (A_up1 S.1 (od p) r)) p wo cs 0).1 = true
      · rw [if_pos hb]
        show P_aw _ _ _ 83 [.ref (w.2.2 42), P_z p, P_z (od p), P_z (rw (od p)), P_z r] [P_z 1] _ _
        refine P_aw_izt P_i134_83 ⟨by decide, by decide⟩ (P_ci_net (by omega)) (show P_aw _ _ _ 89 [.ref (w.2.2 42), P_z p, P_z (od p), P_z (rw (od p)), P_z r] [] _ _ from ?_)
        refine P_aw_op (L' := [.ref (w.2.2 42), P_z p, P_z (od p), P_z (rw (od p)), P_z r]) (st' := [P_z p]) P_i134_89 rfl (show P_aw _ _ _ 90 [.ref (w.2.2 42), P_z p, P_z (od p), P_z (rw (od p)), P_z r] [P_z p] _ _ from ?_)
        refine P_aw_op (L' := [.ref (w.2.2 42), P_z p, P_z (od p), P_z (rw (od p)), P_z r]) (st' := [P_z 1, P_z p]) P_i134_90 rfl (show P_aw _ _ _ 91 [.ref (w.2.2 42), P_z p, P_z (od p), P_z (rw (od p)), P_z r] [P_z 1, P_z p] _ _ from ?_)
        refine P_aw_op (L' := [.ref (w.2.2 42), P_z p, P_z (od p), P_z (rw (od p)), P_z r]) (st' := [P_z (p + 1)]) P_i134_91 P_o_iadd (show P_aw _ _ _ 92 [.ref (w.2.2 42), P_z p, P_z (od p), P_z (rw (od p)), P_z r] [P_z (p + 1)] _ _ from ?_)
        refine P_aw_op (L' := [.ref (w.2.2 42), P_z p, P_z (od p), P_z (rw (od p)), P_z r]) (st' := [.ref (w.2.2 42), P_z (p + 1)]) P_i134_92 rfl (show P_aw _ _ _ 93 [.ref (w.2.2 42), P_z p, P_z (od p), P_z (rw (od p)), P_z r] [.ref (w.2.2 42), P_z (p + 1)] _ _ from ?_)
        refine P_aw_getR P_i134_93 hl42 (hw.s rfl) rfl rfl (show P_aw _ _ _ 96 [.ref (w.2.2 42), P_z p, P_z (od p), P_z (rw (od p)), P_z r] [.ref (w.2.2 6), P_z (p + 1)] _ _ from ?_)
        refine P_aw_call P_i134_96 rfl rfl (fun _ => rfl) rfl rfl rfl rfl (y2 := 30) (as := [.ref (w.2.2 6)]) (r0 := [P_z (p + 1)]) (P_inv_v (hw.2.1 6 (by decide)) (hw.s rfl) rfl rfl) (Nat.le_of_ble_eq_true rfl) (by decide) rfl (Nat.le_of_ble_eq_true rfl) (show P_aw _ _ _ 0 [.ref (w.2.2 6)] [] _ _ from ?_)
        refine P_aw_op (L' := [.ref (w.2.2 6)]) (st' := [.ref (w.2.2 6)]) P_i30_0 rfl (show P_aw _ _ _ 1 [.ref (w.2.2 6)] [.ref (w.2.2 6)] _ _ from ?_)
        refine P_aw_getv P_i30_1 (hw.2.1 6 (by decide)) (hw.s rfl) rfl rfl (hW1.1.1.1) (show P_aw _ _ _ 4 [.ref (w.2.2 6)] [P_z ns] _ _ from ?_)
        refine P_aw_end P_i30_4 rfl rfl (fun _ => rfl) rfl ?_
        show P_aw _ _ _ 99 [.ref (w.2.2 42), P_z p, P_z (od p), P_z (rw (od p)), P_z r] [P_z ns, P_z (p + 1)] _ _
        refine P_aw_ict P_i134_99 ⟨by omega, by omega⟩ ⟨by omega, by omega⟩ (P_ci_get (by omega)) (show P_aw _ _ _ 112 [.ref (w.2.2 42), P_z p, P_z (od p), P_z (rw (od p)), P_z r] [] _ _ from ?_)
        refine P_aw_op (L' := [.ref (w.2.2 42), P_z p, P_z (od p), P_z (rw (od p)), P_z r]) (st' := [.ref (w.2.2 42)]) P_i134_112 rfl (show P_aw _ _ _ 113 [.ref (w.2.2 42), P_z p, P_z (od p), P_z (rw (od p)), P_z r] [.ref (w.2.2 42)] _ _ from ?_)
        refine P_aw_op (L' := [.ref (w.2.2 42), P_z p, P_z (od p), P_z (rw (od p)), P_z r]) (st' := [.ref (w.2.2 42), .ref (w.2.2 42)]) P_i134_113 rfl (show P_aw _ _ _ 114 [.ref (w.2.2 42), P_z p, P_z (od p), P_z (rw (od p)), P_z r] [.ref (w.2.2 42), .ref (w.2.2 42)] _ _ from ?_)
        refine P_aw_getv P_i134_114 hl42 (hw.s rfl) rfl rfl (hW1.2.2.2.2.2.1) (show P_aw _ _ _ 117 [.ref (w.2.2 42), P_z p, P_z (od p), P_z (rw (od p)), P_z r] [P_z S.2.2.2, .ref (w.2.2 42)] _ _ from ?_)
        refine P_aw_op (L' := [.ref (w.2.2 42), P_z p, P_z (od p), P_z (rw (od p)), P_z r]) (st' := [P_z 1, P_z S.2.2.2, .ref (w.2.2 42)]) P_i134_117 rfl (show P_aw _ _ _ 118 [.ref (w.2.2 42), P_z p, P_z (od p), P_z (rw (od p)), P_z r] [P_z 1, P_z S.2.2.2, .ref (w.2.2 42)] _ _ from ?_)
        refine P_aw_op (L' := [.ref (w.2.2 42), P_z p, P_z (od p), P_z (rw (od p)), P_z r]) (st' := [P_z (S.2.2.2 + 1), .ref (w.2.2 42)]) P_i134_118 P_o_iadd (show P_aw _ _ _ 119 [.ref (w.2.2 42), P_z p, P_z (od p), P_z (rw (od p)), P_z r] [P_z (S.2.2.2 + 1), .ref (w.2.2 42)] _ _ from ?_)
        refine P_aw_put P_i134_119 hl42 (hw.s rfl) rfl rfl rfl (show P_aw _ _ _ 122 [.ref (w.2.2 42), P_z p, P_z (od p), P_z (rw (od p)), P_z r] [] _ _ from ?_)
        refine P_aw_op (L' := [.ref (w.2.2 42), P_z p, P_z (od p), P_z (rw (od p)), P_z r]) (st' := [.ref (w.2.2 42)]) P_i134_122 rfl (show P_aw _ _ _ 123 [.ref (w.2.2 42), P_z p, P_z (od p), P_z (rw (od p)), P_z r] [.ref (w.2.2 42)] _ _ from ?_)
        obtain ⟨hW3, hC3⟩ := A_Wt_inc (by omega) hW1 (show S.2.2.2 < 1000000000 by omega)
        have hI3 := hI _ _ _ _ _ _ _ hI1 (Int.le_refl _) (Int.le_refl _) hC3
        refine P_aw_call P_i134_123 rfl rfl (fun _ => rfl) rfl rfl rfl rfl (y2 := 21) (as := [.ref (w.2.2 42)]) (r0 := []) (P_inv_v hl42 (hw.s rfl) rfl rfl) (Nat.le_of_ble_eq_true rfl) (by decide) rfl (Nat.le_of_ble_eq_true rfl) (hM _ (A_inc (A_rd (fun ρ => A_hl (A_val V rw ρ) p wo cs 0) (od p) r S)) hW3 (by have e9 : (A_inc (A_rd (fun ρ => A_hl (A_val V rw ρ) p wo cs 0) (od p) r S)).2.2.2 - 1 = (A_rd (fun ρ => A_hl (A_val V rw ρ) p wo cs 0) (od p) r S).2.2.2 := (by show S.2.2.2 + 1 - 1 = S.2.2.2; omega); rw [e9]; exact hI3) (fun σ4 k3 hI4 => ?_))
        have hW4 := A_Wt_cg (by omega) hW3 (fun a b h => k3 a b) (fun b h h' => k3 _ b) (fun b => k3 _ b)
        have hF4 : ∀ a b, ¬ (42 ≤ a ∧ a ≤ 43) → σ4 a b = σ a b := fun a b h => (k3 a b).trans ((P_u2_ne (by omega)).trans (hF2 a b h))
        have hG4 : ∀ b, b = 15 ∨ b = 16 → σ4 42 b = σ 42 b := fun b h => (k3 _ b).trans ((P_u2_ne (by omega)).trans (hG2 b h))
        show P_aw _ _ _ 126 [.ref (w.2.2 42), P_z p, P_z (od p), P_z (rw (od p)), P_z r] [] _ _
        refine P_aw_op (L' := [.ref (w.2.2 42), P_z p, P_z (od p), P_z (rw (od p)), P_z (r + 1)]) (st' := []) P_i134_126 (P_o_iinc rfl) (show P_aw _ _ _ 129 [.ref (w.2.2 42), P_z p, P_z (od p), P_z (rw (od p)), P_z (r + 1)] [] _ _ from ?_)
        refine P_aw_goto P_i134_129 (show P_aw _ _ _ 41 [.ref (w.2.2 42), P_z p, P_z (od p), P_z (rw (od p)), P_z (r + 1)] [] _ _ from ?_)
        rw [if_pos hb] at e0; exact ih σ4 (r + 1) _ hW4 hI4 (by omega) (by omega) (by omega) (fun σ' h1 h1' h2 h3 => q σ' (fun a b h => (h1 a b h).trans (hF4 a b h)) (fun b h => (h1' b h).trans (hG4 b h)) (by rw [e0]; exact h2) (by rw [e0]; exact h3))
      · rw [if_neg hb]
        show P_aw _ _ _ 83 [.ref (w.2.2 42), P_z p, P_z (od p), P_z (rw (od p)), P_z r] [P_z 0] _ _
        refine P_aw_izf P_i134_83 ⟨by decide, by decide⟩ (P_ci_nef (by omega)) (show P_aw _ _ _ 86 [.ref (w.2.2 42), P_z p, P_z (od p), P_z (rw (od p)), P_z r] [] _ _ from ?_)
        refine P_aw_goto P_i134_86 (show P_aw _ _ _ 126 [.ref (w.2.2 42), P_z p, P_z (od p), P_z (rw (od p)), P_z r] [] _ _ from ?_)
        refine P_aw_op (L' := [.ref (w.2.2 42), P_z p, P_z (od p), P_z (rw (od p)), P_z (r + 1)]) (st' := []) P_i134_126 (P_o_iinc rfl) (show P_aw _ _ _ 129 [.ref (w.2.2 42), P_z p, P_z (od p), P_z (rw (od p)), P_z (r + 1)] [] _ _ from ?_)
        refine P_aw_goto P_i134_129 (show P_aw _ _ _ 41 [.ref (w.2.2 42), P_z p, P_z (od p), P_z (rw (od p)), P_z (r + 1)] [] _ _ from ?_)
        rw [if_neg hb] at e0; exact ih σ2 (r + 1) _ hW1 hI1 (by omega) (by omega) (by omega) (fun σ' h1 h1' h2 h3 => q σ' (fun a b h => (h1 a b h).trans (hF2 a b h)) (fun b h => (h1' b h).trans (hG2 b h)) (by rw [e0]; exact h2) (by rw [e0]; exact h3))
    · refine P_aw_ict P_i134_55 ⟨by omega, by omega⟩ ⟨by omega, by omega⟩ (P_ci_get (by omega)) (show P_aw _ _ _ 132 [.ref (w.2.2 42), P_z p, P_z (od p), P_z (rw (od p)), P_z r] [] _ _ from ?_)
      refine P_aw_end P_i134_132 rfl rfl (fun _ => rfl) rfl ?_
      have e1 : A_lp most (fun ρ => A_hl (A_val V rw ρ) p wo cs 0) (od p) A_inc (n + 1) r S = S := if_neg (by omega); exact q σ (fun _ _ _ => rfl) (fun _ _ => rfl) (by rw [e1]; exact hW) (by rw [e1]; exact hI0)

set_option maxHeartbeats 1000000 in
theorem s_gi42 {w : P_Lw} (hw : P_Cw w) {d : Nat} {Q : P_R → P_A → Prop} {ns : Int} {tb : Int → Nat} {rw : Int → Int} {vr : Int → Int → Int} {cl : Int → Int} {V : Int → Int → Int → Int} {cs : List A_cd} {wo : Int} {od : Int → Int} {most : Int} (hl42 : w.2.1 42 = true) (hl43 : w.2.1 43 = true) (hwo1 : -1 ≤ wo ∧ wo ≤ 12) (hms : 0 ≤ most ∧ most ≤ 1000000000) (hok : A_oks ns cs) (htk : A_tks ns cl cs) {Inv : Int → Int → Int → P_A → Prop} (hI : ∀ rd ck mt rd' ck' σ σ', Inv rd ck mt σ → rd ≤ rd' → ck ≤ ck' → A_cn 42 σ σ' → Inv rd' ck' mt σ') {p : Int} (hp : 0 ≤ p ∧ p + 1 < ns) {k : Nat} (hsub : ∀ {Q : P_R → P_A → Prop} (σ : P_A) (S : A_st), A_Wt w 42 σ ns tb rw vr cl V cs wo od most S → Inv S.2.1 S.2.2.1 S.2.2.2 σ → (∀ σ', (∀ a b, ¬ (42 ≤ a ∧ a ≤ 43) → σ' a b = σ a b) → (∀ b, b = 15 ∨ b = 16 → σ' 42 b = σ 42 b) → A_Wt w 42 σ' ns tb rw vr cl V cs wo od most (A_go most (fun p ρ => A_hl (A_val V rw ρ) p wo cs 0) od rw k (p + 1) S) → Inv (A_go most (fun p ρ => A_hl (A_val V rw ρ) p wo cs 0) od rw k (p + 1) S).2.1 (A_go most (fun p ρ => A_hl (A_val V rw ρ) p wo cs 0) od rw k (p + 1) S).2.2.1 (A_go most (fun p ρ => A_hl (A_val V rw ρ) p wo cs 0) od rw k (p + 1) S).2.2.2 σ' → Q (.inl none) σ') → P_aw w (d + 6) 134 0 [.ref (w.2.2 42), P_z (p + 1), P_un, P_un, P_un] [] σ Q) : ∀ (n : Nat) (σ : P_A) (r : Int) (S : A_st), A_Wt w 42 σ ns tb rw vr cl V cs wo od most S → Inv S.2.1 S.2.2.1 S.2.2.2 σ → 0 ≤ r → r + (n : Int) = rw (od p) → r ≤ 14 → (∀ σ', (∀ a b, ¬ (42 ≤ a ∧ a ≤ 43) → σ' a b = σ a b) → (∀ b, b = 15 ∨ b = 16 → σ' 42 b = σ 42 b) → A_Wt w 42 σ' ns tb rw vr cl V cs wo od most (A_lp most (fun ρ => A_hl (A_val V rw ρ) p wo cs 0) (od p) (A_go most (fun p ρ => A_hl (A_val V rw ρ) p wo cs 0) od rw k (p + 1)) n r S) → Inv (A_lp most (fun ρ => A_hl (A_val V rw ρ) p wo cs 0) (od p) (A_go most (fun p ρ => A_hl (A_val V rw ρ) p wo cs 0) od rw k (p + 1)) n r S).2.1 (A_lp most (fun ρ => A_hl (A_val V rw ρ) p wo cs 0) (od p) (A_go most (fun p ρ => A_hl (A_val V rw ρ) p wo cs 0) od rw k (p + 1)) n r S).2.2.1 (A_lp most (fun ρ => A_hl (A_val V rw ρ) p wo cs 0) (od p) (A_go most (fun p ρ => A_hl (A_val V rw ρ) p wo cs 0) od rw k (p + 1)) n r S).2.2.2 σ' → Q (.inl none) σ') → P_aw w (d + 7) 134 41 [.ref (w.2.2 42), P_z p, P_z (od p), P_z (rw (od p)), P_z r] [] σ Q := by
  intro n
  induction n with
  | zero =>
    intro σ r S hW hI0 hr hrn hr14 q
    obtain ⟨hS, hO, hms4, hrd, hck, hmt, hmr⟩ := id hW
    obtain ⟨hA, hX, hK, hwo, hρ⟩ := id hS
    have hns := hA.2.1
    have hod := (hO p (by omega) (by omega)).2
    have hrw := (hA.2.2 (od p) (by omega) (by omega)).2.2.2.1
    refine P_aw_op (L' := [.ref (w.2.2 42), P_z p, P_z (od p), P_z (rw (od p)), P_z r]) (st' := [P_z r]) P_i134_41 rfl (show P_aw _ _ _ 43 [.ref (w.2.2 42), P_z p, P_z (od p), P_z (rw (od p)), P_z r] [P_z r] _ _ from ?_)
    refine P_aw_op (L' := [.ref (w.2.2 42), P_z p, P_z (od p), P_z (rw (od p)), P_z r]) (st' := [P_z (rw (od p)), P_z r]) P_i134_43 rfl (show P_aw _ _ _ 44 [.ref (w.2.2 42), P_z p, P_z (od p), P_z (rw (od p)), P_z r] [P_z (rw (od p)), P_z r] _ _ from ?_)
    refine P_aw_ict P_i134_44 ⟨by omega, by omega⟩ ⟨by omega, by omega⟩ (P_ci_get (by omega)) (show P_aw _ _ _ 132 [.ref (w.2.2 42), P_z p, P_z (od p), P_z (rw (od p)), P_z r] [] _ _ from ?_)
    refine P_aw_end P_i134_132 rfl rfl (fun _ => rfl) rfl ?_
    exact q σ (fun _ _ _ => rfl) (fun _ _ => rfl) hW hI0
  | succ n ih =>
    intro σ r S hW hI0 hr hrn hr14 q
    obtain ⟨hS, hO, hms4, hrd, hck, hmt, hmr⟩ := id hW
    obtain ⟨hA, hX, hK, hwo, hρ⟩ := id hS
    have hns := hA.2.1
    have hod := (hO p (by omega) (by omega)).2
    have hrw := (hA.2.2 (od p) (by omega) (by omega)).2.2.2.1
    refine P_aw_op (L' := [.ref (w.2.2 42), P_z p, P_z (od p), P_z (rw (od p)), P_z r]) (st' := [P_z r]) P_i134_41 rfl (show P_aw _ _ _ 43 [.ref (w.2.2 42), P_z p, P_z (od p), P_z (rw (od p)), P_z r] [P_z r] _ _ from ?_)
    refine P_aw_op (L' := [.ref (w.2.2 42), P_z p, P_z (od p), P_z (rw (od p)), P_z r]) (st' := [P_z (rw (od p)), P_z r]) P_i134_43 rfl (show P_aw _ _ _ 44 [.ref (w.2.2 42), P_z p, P_z (od p), P_z (rw (od p)), P_z r] [P_z (rw (od p)), P_z r] _ _ from ?_)
    refine P_aw_icf P_i134_44 ⟨by omega, by omega⟩ ⟨by omega, by omega⟩ (P_ci_gef (by omega)) (show P_aw _ _ _ 47 [.ref (w.2.2 42), P_z p, P_z (od p), P_z (rw (od p)), P_z r] [] _ _ from ?_)
    refine P_aw_op (L' := [.ref (w.2.2 42), P_z p, P_z (od p), P_z (rw (od p)), P_z r]) (st' := [.ref (w.2.2 42)]) P_i134_47 rfl (show P_aw _ _ _ 48 [.ref (w.2.2 42), P_z p, P_z (od p), P_z (rw (od p)), P_z r] [.ref (w.2.2 42)] _ _ from ?_)
    refine P_aw_getv P_i134_48 hl42 (hw.s rfl) rfl rfl (hmt) (show P_aw _ _ _ 51 [.ref (w.2.2 42), P_z p, P_z (od p), P_z (rw (od p)), P_z r] [P_z S.2.2.2] _ _ from ?_)
    refine P_aw_op (L' := [.ref (w.2.2 42), P_z p, P_z (od p), P_z (rw (od p)), P_z r]) (st' := [.ref (w.2.2 42), P_z S.2.2.2]) P_i134_51 rfl (show P_aw _ _ _ 52 [.ref (w.2.2 42), P_z p, P_z (od p), P_z (rw (od p)), P_z r] [.ref (w.2.2 42), P_z S.2.2.2] _ _ from ?_)
    refine P_aw_getv P_i134_52 hl42 (hw.s rfl) rfl rfl (hms4) (show P_aw _ _ _ 55 [.ref (w.2.2 42), P_z p, P_z (od p), P_z (rw (od p)), P_z r] [P_z most, P_z S.2.2.2] _ _ from ?_)
    rcases Int.lt_or_le S.2.2.2 most with hc1 | hc1
    · refine P_aw_icf P_i134_55 ⟨by omega, by omega⟩ ⟨by omega, by omega⟩ (P_ci_gef (by omega)) (show P_aw _ _ _ 58 [.ref (w.2.2 42), P_z p, P_z (od p), P_z (rw (od p)), P_z r] [] _ _ from ?_)
      refine P_aw_op (L' := [.ref (w.2.2 42), P_z p, P_z (od p), P_z (rw (od p)), P_z r]) (st' := [.ref (w.2.2 42)]) P_i134_58 rfl (show P_aw _ _ _ 59 [.ref (w.2.2 42), P_z p, P_z (od p), P_z (rw (od p)), P_z r] [.ref (w.2.2 42)] _ _ from ?_)
      refine P_aw_getR P_i134_59 hl42 (hw.s rfl) rfl rfl (show P_aw _ _ _ 62 [.ref (w.2.2 42), P_z p, P_z (od p), P_z (rw (od p)), P_z r] [.ref (w.2.2 43)] _ _ from ?_)
      refine P_aw_op (L' := [.ref (w.2.2 42), P_z p, P_z (od p), P_z (rw (od p)), P_z r]) (st' := [P_z (od p), .ref (w.2.2 43)]) P_i134_62 rfl (show P_aw _ _ _ 63 [.ref (w.2.2 42), P_z p, P_z (od p), P_z (rw (od p)), P_z r] [P_z (od p), .ref (w.2.2 43)] _ _ from ?_)
      refine P_aw_op (L' := [.ref (w.2.2 42), P_z p, P_z (od p), P_z (rw (od p)), P_z r]) (st' := [P_z r, P_z (od p), .ref (w.2.2 43)]) P_i134_63 rfl (show P_aw _ _ _ 65 [.ref (w.2.2 42), P_z p, P_z (od p), P_z (rw (od p)), P_z r] [P_z r, P_z (od p), .ref (w.2.2 43)] _ _ from ?_)
      refine P_aw_call P_i134_65 rfl rfl (fun _ => rfl) rfl rfl rfl rfl (y2 := 179) (as := [.ref (w.2.2 43), P_z (od p), P_z r]) (r0 := []) (fun _ _ => rfl) (Nat.le_of_ble_eq_true rfl) (by decide) rfl (Nat.le_of_ble_eq_true rfl) (show P_aw _ _ _ 0 [.ref (w.2.2 43), P_z (od p), P_z r] [] _ _ from ?_)
      refine P_aw_op (L' := [.ref (w.2.2 43), P_z (od p), P_z r]) (st' := [P_z (od p)]) P_i179_0 rfl (show P_aw _ _ _ 1 [.ref (w.2.2 43), P_z (od p), P_z r] [P_z (od p)] _ _ from ?_)
      refine P_aw_izf P_i179_1 ⟨by omega, by omega⟩ (P_ci_ltf (by omega)) (show P_aw _ _ _ 4 [.ref (w.2.2 43), P_z (od p), P_z r] [] _ _ from ?_)
      refine P_aw_op (L' := [.ref (w.2.2 43), P_z (od p), P_z r]) (st' := [P_z (od p)]) P_i179_4 rfl (show P_aw _ _ _ 5 [.ref (w.2.2 43), P_z (od p), P_z r] [P_z (od p)] _ _ from ?_)
      refine P_aw_op (L' := [.ref (w.2.2 43), P_z (od p), P_z r]) (st' := [.ref (w.2.2 43), P_z (od p)]) P_i179_5 rfl (show P_aw _ _ _ 6 [.ref (w.2.2 43), P_z (od p), P_z r] [.ref (w.2.2 43), P_z (od p)] _ _ from ?_)
      refine P_aw_alen P_i179_6 hl43 (hw.s rfl) (show P_aw _ _ _ 7 [.ref (w.2.2 43), P_z (od p), P_z r] [P_z 3, P_z (od p)] _ _ from ?_)
      refine P_aw_icf P_i179_7 ⟨by omega, by omega⟩ ⟨by decide, by decide⟩ (P_ci_gef (by omega)) (show P_aw _ _ _ 10 [.ref (w.2.2 43), P_z (od p), P_z r] [] _ _ from ?_)
      refine P_aw_op (L' := [.ref (w.2.2 43), P_z (od p), P_z r]) (st' := [.ref (w.2.2 43)]) P_i179_10 rfl (show P_aw _ _ _ 11 [.ref (w.2.2 43), P_z (od p), P_z r] [.ref (w.2.2 43)] _ _ from ?_)
      refine P_aw_op (L' := [.ref (w.2.2 43), P_z (od p), P_z r]) (st' := [P_z (od p), .ref (w.2.2 43)]) P_i179_11 rfl (show P_aw _ _ _ 12 [.ref (w.2.2 43), P_z (od p), P_z r] [P_z (od p), .ref (w.2.2 43)] _ _ from ?_)
      refine P_aw_op (L' := [.ref (w.2.2 43), P_z (od p), P_z r]) (st' := [P_z r, P_z (od p), .ref (w.2.2 43)]) P_i179_12 rfl (show P_aw _ _ _ 13 [.ref (w.2.2 43), P_z (od p), P_z r] [P_z r, P_z (od p), .ref (w.2.2 43)] _ _ from ?_)
      refine P_aw_ast P_i179_13 hl43 (hw.s rfl) (by omega) (by omega) (by decide) (show P_aw _ _ _ 14 [.ref (w.2.2 43), P_z (od p), P_z r] [] _ _ from ?_)
      refine P_aw_end P_i179_14 rfl rfl (fun _ => rfl) rfl ?_
      show P_aw _ _ _ 68 [.ref (w.2.2 42), P_z p, P_z (od p), P_z (rw (od p)), P_z r] [] _ _
      refine P_aw_op (L' := [.ref (w.2.2 42), P_z p, P_z (od p), P_z (rw (od p)), P_z r]) (st' := [.ref (w.2.2 42)]) P_i134_68 rfl (show P_aw _ _ _ 69 [.ref (w.2.2 42), P_z p, P_z (od p), P_z (rw (od p)), P_z r] [.ref (w.2.2 42)] _ _ from ?_)
      refine P_aw_op (L' := [.ref (w.2.2 42), P_z p, P_z (od p), P_z (rw (od p)), P_z r]) (st' := [.ref (w.2.2 42), .ref (w.2.2 42)]) P_i134_69 rfl (show P_aw _ _ _ 70 [.ref (w.2.2 42), P_z p, P_z (od p), P_z (rw (od p)), P_z r] [.ref (w.2.2 42), .ref (w.2.2 42)] _ _ from ?_)
      refine P_aw_getv P_i134_70 hl42 (hw.s rfl) rfl rfl ((P_u2_ne (by omega)).trans (hrd)) (show P_aw _ _ _ 73 [.ref (w.2.2 42), P_z p, P_z (od p), P_z (rw (od p)), P_z r] [P_z S.2.1, .ref (w.2.2 42)] _ _ from ?_)
      refine P_aw_op (L' := [.ref (w.2.2 42), P_z p, P_z (od p), P_z (rw (od p)), P_z r]) (st' := [P_z 1, P_z S.2.1, .ref (w.2.2 42)]) P_i134_73 rfl (show P_aw _ _ _ 74 [.ref (w.2.2 42), P_z p, P_z (od p), P_z (rw (od p)), P_z r] [P_z 1, P_z S.2.1, .ref (w.2.2 42)] _ _ from ?_)
      refine P_aw_op (L' := [.ref (w.2.2 42), P_z p, P_z (od p), P_z (rw (od p)), P_z r]) (st' := [P_z (S.2.1 + 1), .ref (w.2.2 42)]) P_i134_74 P_o_iadd (show P_aw _ _ _ 75 [.ref (w.2.2 42), P_z p, P_z (od p), P_z (rw (od p)), P_z r] [P_z (S.2.1 + 1), .ref (w.2.2 42)] _ _ from ?_)
      refine P_aw_put P_i134_75 hl42 (hw.s rfl) rfl rfl rfl (show P_aw _ _ _ 78 [.ref (w.2.2 42), P_z p, P_z (od p), P_z (rw (od p)), P_z r] [] _ _ from ?_)
      refine P_aw_op (L' := [.ref (w.2.2 42), P_z p, P_z (od p), P_z (rw (od p)), P_z r]) (st' := [.ref (w.2.2 42)]) P_i134_78 rfl (show P_aw _ _ _ 79 [.ref (w.2.2 42), P_z p, P_z (od p), P_z (rw (od p)), P_z r] [.ref (w.2.2 42)] _ _ from ?_)
      refine P_aw_op (L' := [.ref (w.2.2 42), P_z p, P_z (od p), P_z (rw (od p)), P_z r]) (st' := [P_z p, .ref (w.2.2 42)]) P_i134_79 rfl (show P_aw _ _ _ 80 [.ref (w.2.2 42), P_z p, P_z (od p), P_z (rw (od p)), P_z r] [P_z p, .ref (w.2.2 42)] _ _ from ?_)
      refine P_aw_call P_i134_80 rfl rfl (fun _ => rfl) rfl rfl rfl rfl (y2 := 135) (as := [.ref (w.2.2 42), P_z p]) (r0 := []) (P_inv_v hl42 (hw.s rfl) rfl rfl) (Nat.le_of_ble_eq_true rfl) (by decide) rfl (Nat.le_of_ble_eq_true rfl) (s_ha42 hw hl42 hl43 (by omega) hwo1 hok htk (A_S_rd (by omega) hW (by omega) (by omega)) ((P_u2_ne (by omega)).trans ((P_u2_ne (by omega)).trans hck)) (fun σ2 k1 k2 => ?_))
      obtain ⟨hW1, hC1⟩ := A_Wt_rd (hold := (fun ρ => A_hl (A_val V rw ρ) p wo cs 0)) (by omega) hW (by omega) (by omega) k1 k2
      have hI1 := hI _ _ _ (A_rd (fun ρ => A_hl (A_val V rw ρ) p wo cs 0) (od p) r S).2.1 (A_rd (fun ρ => A_hl (A_val V rw ρ) p wo cs 0) (od p) r S).2.2.1 _ _ hI0 (A_rd_le (fun ρ => (A_hl_rg cs 0).1)).1 (A_rd_le (fun ρ => (A_hl_rg cs 0).1)).2 hC1
      have hF2 : ∀ a b, ¬ (42 ≤ a ∧ a ≤ 43) → σ2 a b = σ a b := fun a b h => hC1 a b (by omega) (by omega)
      have hG2 : ∀ b, b = 15 ∨ b = 16 → σ2 42 b = σ 42 b := fun b h => hC1 _ b (by omega) (by omega)
      have e0 : A_lp most (fun ρ => A_hl (A_val V rw ρ) p wo cs 0) (od p) (A_go most (fun p ρ => A_hl (A_val V rw ρ) p wo cs 0) od rw k (p + 1)) (n + 1) r S = A_lp most (fun ρ => A_hl (A_val V rw ρ) p wo cs 0) (od p) (A_go most (fun p ρ => A_hl (A_val V rw ρ) p wo cs 0) od rw k (p + 1)) n (r + 1) (if (A_hl (A_val V rw (A_up1 S.1 (od p) r)) p wo cs 0).1 = true then (A_go most (fun p ρ => A_hl (A_val V rw ρ) p wo cs 0) od rw k (p + 1)) (A_rd (fun ρ => A_hl (A_val V rw ρ) p wo cs 0) (od p) r S) else A_rd (fun ρ => A_hl (A_val V rw ρ) p wo cs 0) (od p) r S) := if_pos (by omega)
      by_cases hb : (A_hl (A_val V rw (A_up1 S.1 (od p) r)) p wo cs 0).1 = true
      · rw [if_pos hb]
        show P_aw _ _ _ 83 [.ref (w.2.2 42), P_z p, P_z (od p), P_z (rw (od p)), P_z r] [P_z 1] _ _
        refine P_aw_izt P_i134_83 ⟨by decide, by decide⟩ (P_ci_net (by omega)) (show P_aw _ _ _ 89 [.ref (w.2.2 42), P_z p, P_z (od p), P_z (rw (od p)), P_z r] [] _ _ from ?_)
        refine P_aw_op (L' := [.ref (w.2.2 42), P_z p, P_z (od p), P_z (rw (od p)), P_z r]) (st' := [P_z p]) P_i134_89 rfl (show P_aw _ _ _ 90 [.ref (w.2.2 42), P_z p, P_z (od p), P_z (rw (od p)), P_z r] [P_z p] _ _ from ?_)
        refine P_aw_op (L' := [.ref (w.2.2 42), P_z p, P_z (od p), P_z (rw (od p)), P_z r]) (st' := [P_z 1, P_z p]) P_i134_90 rfl (show P_aw _ _ _ 91 [.ref (w.2.2 42), P_z p, P_z (od p), P_z (rw (od p)), P_z r] [P_z 1, P_z p] _ _ from ?_)
        refine P_aw_op (L' := [.ref (w.2.2 42), P_z p, P_z (od p), P_z (rw (od p)), P_z r]) (st' := [P_z (p + 1)]) P_i134_91 P_o_iadd (show P_aw _ _ _ 92 [.ref (w.2.2 42), P_z p, P_z (od p), P_z (rw (od p)), P_z r] [P_z (p + 1)] _ _ from ?_)
        refine P_aw_op (L' := [.ref (w.2.2 42), P_z p, P_z (od p), P_z (rw (od p)), P_z r]) (st' := [.ref (w.2.2 42), P_z (p + 1)]) P_i134_92 rfl (show P_aw _ _ _ 93 [.ref (w.2.2 42), P_z p, P_z (od p), P_z (rw (od p)), P_z r] [.ref (w.2.2 42), P_z (p + 1)] _ _ from ?_)
        refine P_aw_getR P_i134_93 hl42 (hw.s rfl) rfl rfl (show P_aw _ _ _ 96 [.ref (w.2.2 42), P_z p, P_z (od p), P_z (rw (od p)), P_z r] [.ref (w.2.2 6), P_z (p + 1)] _ _ from ?_)
        refine P_aw_call P_i134_96 rfl rfl (fun _ => rfl) rfl rfl rfl rfl (y2 := 30) (as := [.ref (w.2.2 6)]) (r0 := [P_z (p + 1)]) (P_inv_v (hw.2.1 6 (by decide)) (hw.s rfl) rfl rfl) (Nat.le_of_ble_eq_true rfl) (by decide) rfl (Nat.le_of_ble_eq_true rfl) (show P_aw _ _ _ 0 [.ref (w.2.2 6)] [] _ _ from ?_)
        refine P_aw_op (L' := [.ref (w.2.2 6)]) (st' := [.ref (w.2.2 6)]) P_i30_0 rfl (show P_aw _ _ _ 1 [.ref (w.2.2 6)] [.ref (w.2.2 6)] _ _ from ?_)
        refine P_aw_getv P_i30_1 (hw.2.1 6 (by decide)) (hw.s rfl) rfl rfl (hW1.1.1.1) (show P_aw _ _ _ 4 [.ref (w.2.2 6)] [P_z ns] _ _ from ?_)
        refine P_aw_end P_i30_4 rfl rfl (fun _ => rfl) rfl ?_
        show P_aw _ _ _ 99 [.ref (w.2.2 42), P_z p, P_z (od p), P_z (rw (od p)), P_z r] [P_z ns, P_z (p + 1)] _ _
        refine P_aw_icf P_i134_99 ⟨by omega, by omega⟩ ⟨by omega, by omega⟩ (P_ci_gef (by omega)) (show P_aw _ _ _ 102 [.ref (w.2.2 42), P_z p, P_z (od p), P_z (rw (od p)), P_z r] [] _ _ from ?_)
        refine P_aw_op (L' := [.ref (w.2.2 42), P_z p, P_z (od p), P_z (rw (od p)), P_z r]) (st' := [.ref (w.2.2 42)]) P_i134_102 rfl (show P_aw _ _ _ 103 [.ref (w.2.2 42), P_z p, P_z (od p), P_z (rw (od p)), P_z r] [.ref (w.2.2 42)] _ _ from ?_)
        refine P_aw_op (L' := [.ref (w.2.2 42), P_z p, P_z (od p), P_z (rw (od p)), P_z r]) (st' := [P_z p, .ref (w.2.2 42)]) P_i134_103 rfl (show P_aw _ _ _ 104 [.ref (w.2.2 42), P_z p, P_z (od p), P_z (rw (od p)), P_z r] [P_z p, .ref (w.2.2 42)] _ _ from ?_)
        refine P_aw_op (L' := [.ref (w.2.2 42), P_z p, P_z (od p), P_z (rw (od p)), P_z r]) (st' := [P_z 1, P_z p, .ref (w.2.2 42)]) P_i134_104 rfl (show P_aw _ _ _ 105 [.ref (w.2.2 42), P_z p, P_z (od p), P_z (rw (od p)), P_z r] [P_z 1, P_z p, .ref (w.2.2 42)] _ _ from ?_)
        refine P_aw_op (L' := [.ref (w.2.2 42), P_z p, P_z (od p), P_z (rw (od p)), P_z r]) (st' := [P_z (p + 1), .ref (w.2.2 42)]) P_i134_105 P_o_iadd (show P_aw _ _ _ 106 [.ref (w.2.2 42), P_z p, P_z (od p), P_z (rw (od p)), P_z r] [P_z (p + 1), .ref (w.2.2 42)] _ _ from ?_)
        refine P_aw_call P_i134_106 rfl rfl (fun _ => rfl) rfl rfl rfl rfl (y2 := 134) (as := [.ref (w.2.2 42), P_z (p + 1)]) (r0 := []) (P_inv_v hl42 (hw.s rfl) rfl rfl) (Nat.le_of_ble_eq_true rfl) (by decide) rfl (Nat.le_of_ble_eq_true rfl) (hsub _ (A_rd (fun ρ => A_hl (A_val V rw ρ) p wo cs 0) (od p) r S) hW1 hI1 (fun σ4 k3 k3' hW4 hI4 => ?_))
        have hF4 : ∀ a b, ¬ (42 ≤ a ∧ a ≤ 43) → σ4 a b = σ a b := fun a b h => (k3 a b h).trans (hF2 a b h)
        have hG4 : ∀ b, b = 15 ∨ b = 16 → σ4 42 b = σ 42 b := fun b h => (k3' b h).trans (hG2 b h)
        show P_aw _ _ _ 109 [.ref (w.2.2 42), P_z p, P_z (od p), P_z (rw (od p)), P_z r] [] _ _
        refine P_aw_goto P_i134_109 (show P_aw _ _ _ 126 [.ref (w.2.2 42), P_z p, P_z (od p), P_z (rw (od p)), P_z r] [] _ _ from ?_)
        refine P_aw_op (L' := [.ref (w.2.2 42), P_z p, P_z (od p), P_z (rw (od p)), P_z (r + 1)]) (st' := []) P_i134_126 (P_o_iinc rfl) (show P_aw _ _ _ 129 [.ref (w.2.2 42), P_z p, P_z (od p), P_z (rw (od p)), P_z (r + 1)] [] _ _ from ?_)
        refine P_aw_goto P_i134_129 (show P_aw _ _ _ 41 [.ref (w.2.2 42), P_z p, P_z (od p), P_z (rw (od p)), P_z (r + 1)] [] _ _ from ?_)
        rw [if_pos hb] at e0; exact ih σ4 (r + 1) _ hW4 hI4 (by omega) (by omega) (by omega) (fun σ' h1 h1' h2 h3 => q σ' (fun a b h => (h1 a b h).trans (hF4 a b h)) (fun b h => (h1' b h).trans (hG4 b h)) (by rw [e0]; exact h2) (by rw [e0]; exact h3))
      · rw [if_neg hb]
        show P_aw _ _ _ 83 [.ref (w.2.2 42), P_z p, P_z (od p), P_z (rw (od p)), P_z r] [P_z 0] _ _
        refine P_aw_izf P_i134_83 ⟨by decide, by decide⟩ (P_ci_nef (by omega)) (show P_aw _ _ _ 86 [.ref (w.2.2 42), P_z p, P_z (od p), P_z (rw (od p)), P_z r] [] _ _ from ?_)
        refine P_aw_goto P_i134_86 (show P_aw _ _ _ 126 [.ref (w.2.2 42), P_z p, P_z (od p), P_z (rw (od p)), P_z r] [] _ _ from ?_)
        refine P_aw_op (L' := [.ref (w.2.2 42), P_z p, P_z (od p), P_z (rw (od p)), P_z (r + 1)]) (st' := []) P_i134_126 (P_o_iinc rfl) (show P_aw _ _ _ 129 [.ref (w.2.2 42), P_z p, P_z (od p), P_z (rw (od p)), P_z (r + 1)] [] _ _ from ?_)
        refine P_aw_goto P_i134_129 (show P_aw _ _ _ 41 [.ref (w.2.2 42), P_z p, P_z (od p), P_z (rw (od p)), P_z (r + 1)] [] _ _ from ?_)
        rw [if_neg hb] at e0; exact ih σ2 (r + 1) _ hW1 hI1 (by omega) (by omega) (by omega) (fun σ' h1 h1' h2 h3 => q σ' (fun a b h => (h1 a b h).trans (hF2 a b h)) (fun b h => (h1' b h).trans (hG2 b h)) (by rw [e0]; exact h2) (by rw [e0]; exact h3))
    · refine P_aw_ict P_i134_55 ⟨by omega, by omega⟩ ⟨by omega, by omega⟩ (P_ci_get (by omega)) (show P_aw _ _ _ 132 [.ref (w.2.2 42), P_z p, P_z (od p), P_z (rw (od p)), P_z r] [] _ _ from ?_)
      refine P_aw_end P_i134_132 rfl rfl (fun _ => rfl) rfl ?_
      have e1 : A_lp most (fun ρ => A_hl (A_val V rw ρ) p wo cs 0) (od p) (A_go most (fun p ρ => A_hl (A_val V rw ρ) p wo cs 0) od rw k (p + 1)) (n + 1) r S = S := if_neg (by omega); exact q σ (fun _ _ _ => rfl) (fun _ _ => rfl) (by rw [e1]; exact hW) (by rw [e1]; exact hI0)

/-- a walk's cells as it begins -/
def A_w0 (σ : P_A) (T : Nat) (wo most : Int) : P_A := P_u2 (P_u2 (P_u2 (P_u2 (P_u2 (P_u2 (P_u2 (P_u2 σ T 3 wo) T 4 most) T 5 0) T 6 0) T 7 0) (T + 1) 0 0) (T + 1) 1 0) (T + 1) 2 0
theorem A_w0_ne {σ : P_A} {T a b : Nat} {wo most : Int} (h : ¬ (a = T ∧ 3 ≤ b ∧ b ≤ 7)) (h2 : a ≠ T + 1) : A_w0 σ T wo most a b = σ a b := by
  unfold A_w0
  rw [P_u2_ne (by omega), P_u2_ne (by omega), P_u2_ne (by omega), P_u2_ne (by omega), P_u2_ne (by omega), P_u2_ne (by omega), P_u2_ne (by omega), P_u2_ne (by omega)]
theorem A_Wt_0 {w : P_Lw} {T : Nat} {σ : P_A} {ns : Int} {tb : Int → Nat} {rw : Int → Int} {vr : Int → Int → Int} {cl : Int → Int} {V : Int → Int → Int → Int} {cs : List A_cd} {wo most : Int} {od : Int → Int} (hT : 29 ≤ T ∧ T ≤ 48) (hA : A_V w σ ns tb rw vr) (hX : A_X σ ns tb rw cl V) (hK : A_KL σ cs) (hO : A_O σ ns od) : A_Wt w T (A_w0 σ T wo most) ns tb rw vr cl V cs wo od most (fun _ => 0, 0, 0, 0) := by
  have h : ∀ a b, ¬ (29 ≤ a ∧ a ≤ 49) → A_w0 σ T wo most a b = σ a b := fun a b e => A_w0_ne (by omega) (by omega)
  refine ⟨⟨A_V_cg (fun a b e => h a b (by omega)) hA, A_X_cg (fun s a b => (hA.2.2 s a b).2.1.1) (fun a b e => h a b (by omega)) hX, A_KL_cg (h 13 4 (by omega)) (fun a b e1 e2 => h a b (by omega)) hK, ?_, fun s a b => ⟨?_, (by show (0 : Int) ≤ 0; omega), (by show (0 : Int) ≤ 13; omega)⟩⟩, A_O_cg (fun b => h 28 b (by omega)) hO, ?_, ?_, ?_, ?_, by show (0 : Int) ≤ 0 ∧ (0 : Int) ≤ 1000000000; omega⟩
  · unfold A_w0
    rw [P_u2_ne (by omega), P_u2_ne (by omega), P_u2_ne (by omega), P_u2_ne (by omega), P_u2_ne (by omega), P_u2_ne (by omega), P_u2_ne (by omega), P_u2_at]
  · have hs : s = 0 ∨ s = 1 ∨ s = 2 := by omega
    unfold A_w0
    rcases hs with rfl | rfl | rfl
    · rw [P_u2_ne (by omega), P_u2_ne (by omega)]; exact P_u2_at
    · rw [P_u2_ne (by omega)]; exact P_u2_at
    · exact P_u2_at
  · unfold A_w0
    rw [P_u2_ne (by omega), P_u2_ne (by omega), P_u2_ne (by omega), P_u2_ne (by omega), P_u2_ne (by omega), P_u2_ne (by omega), P_u2_at]
  · unfold A_w0
    rw [P_u2_ne (by omega), P_u2_ne (by omega), P_u2_ne (by omega), P_u2_ne (by omega), P_u2_ne (by omega), P_u2_at]
  · unfold A_w0
    rw [P_u2_ne (by omega), P_u2_ne (by omega), P_u2_ne (by omega), P_u2_ne (by omega), P_u2_at]
  · unfold A_w0
    rw [P_u2_ne (by omega), P_u2_ne (by omega), P_u2_ne (by omega), P_u2_at]

theorem s_go31_1 {w : P_Lw} (hw : P_Cw w) {d : Nat} {Q : P_R → P_A → Prop} {ns : Int} {tb : Int → Nat} {rw : Int → Int} {vr : Int → Int → Int} {cl : Int → Int} {V : Int → Int → Int → Int} {cs : List A_cd} {wo : Int} {od : Int → Int} {most : Int} (hwo1 : -1 ≤ wo ∧ wo ≤ 12) (hms : 0 ≤ most ∧ most ≤ 1000000000) (hok : A_oks ns cs) (htk : A_tks ns cl cs) {Inv : Int → Int → Int → P_A → Prop} (hI : ∀ rd ck mt rd' ck' σ σ', Inv rd ck mt σ → rd ≤ rd' → ck ≤ ck' → A_cn 31 σ σ' → Inv rd' ck' mt σ') (hM : ∀ {d : Nat} {Q : P_R → P_A → Prop} (σ : P_A) (S : A_st), A_Wt w 31 σ ns tb rw vr cl V cs wo od most S → Inv S.2.1 S.2.2.1 (S.2.2.2 - 1) σ → (∀ σ', (∀ a b, ¬ (33 ≤ a ∧ a ≤ 39) → ¬ (a = 31 ∧ b = 14) → σ' a b = σ a b) → Inv S.2.1 S.2.2.1 S.2.2.2 σ' → Q (.inl none) σ') → P_aw w (d + 6) 9 0 [.ref (w.2.2 31)] [] σ Q) {p : Int} (hp : 0 ≤ p ∧ p + 1 = ns) (σ : P_A) (S : A_st) (hW : A_Wt w 31 σ ns tb rw vr cl V cs wo od most S) (hI0 : Inv S.2.1 S.2.2.1 S.2.2.2 σ) (q : (∀ σ', (∀ a b, ¬ (31 ≤ a ∧ a ≤ 39) → σ' a b = σ a b) → (∀ b, b = 15 ∨ b = 16 → σ' 31 b = σ 31 b) → A_Wt w 31 σ' ns tb rw vr cl V cs wo od most (A_go most (fun p ρ => A_hl (A_val V rw ρ) p wo cs 0) od rw 1 p S) → Inv (A_go most (fun p ρ => A_hl (A_val V rw ρ) p wo cs 0) od rw 1 p S).2.1 (A_go most (fun p ρ => A_hl (A_val V rw ρ) p wo cs 0) od rw 1 p S).2.2.1 (A_go most (fun p ρ => A_hl (A_val V rw ρ) p wo cs 0) od rw 1 p S).2.2.2 σ' → Q (.inl none) σ')) : P_aw w (d + 7) 134 0 [.ref (w.2.2 31), P_z p, P_un, P_un, P_un] [] σ Q := by
  obtain ⟨hS, hO, hms4, hrd, hck, hmt, hmr⟩ := id hW
  obtain ⟨hA, hX, hK, hwo, hρ⟩ := id hS
  have hns := hA.2.1
  have hod := (hO p (by omega) (by omega)).2
  have hrw := (hA.2.2 (od p) (by omega) (by omega)).2.2.2.1
  refine P_aw_op (L' := [.ref (w.2.2 31), P_z p, P_un, P_un, P_un]) (st' := [P_z p]) P_i134_0 rfl (show P_aw _ _ _ 1 [.ref (w.2.2 31), P_z p, P_un, P_un, P_un] [P_z p] _ _ from ?_)
  refine P_aw_op (L' := [.ref (w.2.2 31), P_z p, P_un, P_un, P_un]) (st' := [.ref (w.2.2 31), P_z p]) P_i134_1 rfl (show P_aw _ _ _ 2 [.ref (w.2.2 31), P_z p, P_un, P_un, P_un] [.ref (w.2.2 31), P_z p] _ _ from ?_)
  refine P_aw_getR P_i134_2 (hw.2.1 31 (by decide)) (hw.s rfl) rfl rfl (show P_aw _ _ _ 5 [.ref (w.2.2 31), P_z p, P_un, P_un, P_un] [.ref (w.2.2 6), P_z p] _ _ from ?_)
  refine P_aw_call P_i134_5 rfl rfl (fun _ => rfl) rfl rfl rfl rfl (y2 := 30) (as := [.ref (w.2.2 6)]) (r0 := [P_z p]) (P_inv_v (hw.2.1 6 (by decide)) (hw.s rfl) rfl rfl) (Nat.le_of_ble_eq_true rfl) (by decide) rfl (Nat.le_of_ble_eq_true rfl) (show P_aw _ _ _ 0 [.ref (w.2.2 6)] [] _ _ from ?_)
  refine P_aw_op (L' := [.ref (w.2.2 6)]) (st' := [.ref (w.2.2 6)]) P_i30_0 rfl (show P_aw _ _ _ 1 [.ref (w.2.2 6)] [.ref (w.2.2 6)] _ _ from ?_)
  refine P_aw_getv P_i30_1 (hw.2.1 6 (by decide)) (hw.s rfl) rfl rfl (hA.1) (show P_aw _ _ _ 4 [.ref (w.2.2 6)] [P_z ns] _ _ from ?_)
  refine P_aw_end P_i30_4 rfl rfl (fun _ => rfl) rfl ?_
  show P_aw _ _ _ 8 [.ref (w.2.2 31), P_z p, P_un, P_un, P_un] [P_z ns, P_z p] _ _
  refine P_aw_icf P_i134_8 ⟨by omega, by omega⟩ ⟨by omega, by omega⟩ (P_ci_gef (by omega)) (show P_aw _ _ _ 11 [.ref (w.2.2 31), P_z p, P_un, P_un, P_un] [] _ _ from ?_)
  refine P_aw_op (L' := [.ref (w.2.2 31), P_z p, P_un, P_un, P_un]) (st' := [P_z p]) P_i134_11 rfl (show P_aw _ _ _ 12 [.ref (w.2.2 31), P_z p, P_un, P_un, P_un] [P_z p] _ _ from ?_)
  refine P_aw_op (L' := [.ref (w.2.2 31), P_z p, P_un, P_un, P_un]) (st' := [P_z 3, P_z p]) P_i134_12 rfl (show P_aw _ _ _ 13 [.ref (w.2.2 31), P_z p, P_un, P_un, P_un] [P_z 3, P_z p] _ _ from ?_)
  refine P_aw_ict P_i134_13 ⟨by omega, by omega⟩ ⟨by decide, by decide⟩ (P_ci_ltt (by omega)) (show P_aw _ _ _ 17 [.ref (w.2.2 31), P_z p, P_un, P_un, P_un] [] _ _ from ?_)
  refine P_aw_op (L' := [.ref (w.2.2 31), P_z p, P_un, P_un, P_un]) (st' := [.ref (w.2.2 31)]) P_i134_17 rfl (show P_aw _ _ _ 18 [.ref (w.2.2 31), P_z p, P_un, P_un, P_un] [.ref (w.2.2 31)] _ _ from ?_)
  refine P_aw_getR P_i134_18 (hw.2.1 31 (by decide)) (hw.s rfl) rfl rfl (show P_aw _ _ _ 21 [.ref (w.2.2 31), P_z p, P_un, P_un, P_un] [.ref (w.2.2 13)] _ _ from ?_)
  refine P_aw_op (L' := [.ref (w.2.2 31), P_z p, P_un, P_un, P_un]) (st' := [P_z p, .ref (w.2.2 13)]) P_i134_21 rfl (show P_aw _ _ _ 22 [.ref (w.2.2 31), P_z p, P_un, P_un, P_un] [P_z p, .ref (w.2.2 13)] _ _ from ?_)
  refine P_aw_call P_i134_22 rfl rfl (fun _ => rfl) rfl rfl rfl rfl (y2 := 58) (as := [.ref (w.2.2 13), P_z p]) (r0 := []) (P_inv_v (hw.2.1 13 (by decide)) (hw.s rfl) rfl rfl) (Nat.le_of_ble_eq_true rfl) (by decide) rfl (Nat.le_of_ble_eq_true rfl) (show P_aw _ _ _ 0 [.ref (w.2.2 13), P_z p] [] _ _ from ?_)
  refine P_aw_op (L' := [.ref (w.2.2 13), P_z p]) (st' := [.ref (w.2.2 13)]) P_i58_0 rfl (show P_aw _ _ _ 1 [.ref (w.2.2 13), P_z p] [.ref (w.2.2 13)] _ _ from ?_)
  refine P_aw_getR P_i58_1 (hw.2.1 13 (by decide)) (hw.s rfl) rfl rfl (show P_aw _ _ _ 4 [.ref (w.2.2 13), P_z p] [.ref (w.2.2 28)] _ _ from ?_)
  refine P_aw_op (L' := [.ref (w.2.2 13), P_z p]) (st' := [P_z p, .ref (w.2.2 28)]) P_i58_4 rfl (show P_aw _ _ _ 5 [.ref (w.2.2 13), P_z p] [P_z p, .ref (w.2.2 28)] _ _ from ?_)
  refine P_aw_call P_i58_5 rfl rfl (fun _ => rfl) rfl rfl rfl rfl (y2 := 178) (as := [.ref (w.2.2 28), P_z p]) (r0 := []) (fun _ _ => rfl) (Nat.le_of_ble_eq_true rfl) (by decide) rfl (Nat.le_of_ble_eq_true rfl) (show P_aw _ _ _ 0 [.ref (w.2.2 28), P_z p] [] _ _ from ?_)
  refine P_aw_op (L' := [.ref (w.2.2 28), P_z p]) (st' := [P_z p]) P_i178_0 rfl (show P_aw _ _ _ 1 [.ref (w.2.2 28), P_z p] [P_z p] _ _ from ?_)
  refine P_aw_izf P_i178_1 ⟨by omega, by omega⟩ (P_ci_ltf (by omega)) (show P_aw _ _ _ 4 [.ref (w.2.2 28), P_z p] [] _ _ from ?_)
  refine P_aw_op (L' := [.ref (w.2.2 28), P_z p]) (st' := [P_z p]) P_i178_4 rfl (show P_aw _ _ _ 5 [.ref (w.2.2 28), P_z p] [P_z p] _ _ from ?_)
  refine P_aw_op (L' := [.ref (w.2.2 28), P_z p]) (st' := [.ref (w.2.2 28), P_z p]) P_i178_5 rfl (show P_aw _ _ _ 6 [.ref (w.2.2 28), P_z p] [.ref (w.2.2 28), P_z p] _ _ from ?_)
  refine P_aw_alen P_i178_6 (hw.2.1 28 (by decide)) (hw.s rfl) (show P_aw _ _ _ 7 [.ref (w.2.2 28), P_z p] [P_z 3, P_z p] _ _ from ?_)
  refine P_aw_icf P_i178_7 ⟨by omega, by omega⟩ ⟨by decide, by decide⟩ (P_ci_gef (by omega)) (show P_aw _ _ _ 10 [.ref (w.2.2 28), P_z p] [] _ _ from ?_)
  refine P_aw_op (L' := [.ref (w.2.2 28), P_z p]) (st' := [.ref (w.2.2 28)]) P_i178_10 rfl (show P_aw _ _ _ 11 [.ref (w.2.2 28), P_z p] [.ref (w.2.2 28)] _ _ from ?_)
  refine P_aw_op (L' := [.ref (w.2.2 28), P_z p]) (st' := [P_z p, .ref (w.2.2 28)]) P_i178_11 rfl (show P_aw _ _ _ 12 [.ref (w.2.2 28), P_z p] [P_z p, .ref (w.2.2 28)] _ _ from ?_)
  have hg1 := (hO p (by omega) (by omega)).2
  refine P_aw_aldv P_i178_12 (hw.2.1 28 (by decide)) (hw.s rfl) (by omega) (by omega) (by decide) ((hO p (by omega) (by omega)).1) (show P_aw _ _ _ 13 [.ref (w.2.2 28), P_z p] [P_z (od p)] _ _ from ?_)
  refine P_aw_goto P_i178_13 (show P_aw _ _ _ 17 [.ref (w.2.2 28), P_z p] [P_z (od p)] _ _ from ?_)
  refine P_aw_end P_i178_17 rfl rfl (fun _ => rfl) rfl ?_
  show P_aw _ _ _ 8 [.ref (w.2.2 13), P_z p] [P_z (od p)] _ _
  refine P_aw_end P_i58_8 rfl rfl (fun _ => rfl) rfl ?_
  show P_aw _ _ _ 25 [.ref (w.2.2 31), P_z p, P_un, P_un, P_un] [P_z (od p)] _ _
  refine P_aw_op (L' := [.ref (w.2.2 31), P_z p, P_z (od p), P_un, P_un]) (st' := []) P_i134_25 rfl (show P_aw _ _ _ 26 [.ref (w.2.2 31), P_z p, P_z (od p), P_un, P_un] [] _ _ from ?_)
  refine P_aw_op (L' := [.ref (w.2.2 31), P_z p, P_z (od p), P_un, P_un]) (st' := [.ref (w.2.2 31)]) P_i134_26 rfl (show P_aw _ _ _ 27 [.ref (w.2.2 31), P_z p, P_z (od p), P_un, P_un] [.ref (w.2.2 31)] _ _ from ?_)
  refine P_aw_getR P_i134_27 (hw.2.1 31 (by decide)) (hw.s rfl) rfl rfl (show P_aw _ _ _ 30 [.ref (w.2.2 31), P_z p, P_z (od p), P_un, P_un] [.ref (w.2.2 6)] _ _ from ?_)
  refine P_aw_op (L' := [.ref (w.2.2 31), P_z p, P_z (od p), P_un, P_un]) (st' := [P_z (od p), .ref (w.2.2 6)]) P_i134_30 rfl (show P_aw _ _ _ 31 [.ref (w.2.2 31), P_z p, P_z (od p), P_un, P_un] [P_z (od p), .ref (w.2.2 6)] _ _ from ?_)
  refine P_aw_call P_i134_31 rfl rfl (fun _ => rfl) rfl rfl rfl rfl (y2 := 38) (as := [.ref (w.2.2 6), P_z (od p)]) (r0 := []) (P_inv_v (hw.2.1 6 (by decide)) (hw.s rfl) rfl rfl) (Nat.le_of_ble_eq_true rfl) (by decide) rfl (Nat.le_of_ble_eq_true rfl) (show P_aw _ _ _ 0 [.ref (w.2.2 6), P_z (od p), P_un] [] _ _ from ?_)
  refine P_aw_op (L' := [.ref (w.2.2 6), P_z (od p), P_un]) (st' := [P_z (od p)]) P_i38_0 rfl (show P_aw _ _ _ 1 [.ref (w.2.2 6), P_z (od p), P_un] [P_z (od p)] _ _ from ?_)
  refine P_aw_izf P_i38_1 ⟨by omega, by omega⟩ (P_ci_ltf (by omega)) (show P_aw _ _ _ 4 [.ref (w.2.2 6), P_z (od p), P_un] [] _ _ from ?_)
  refine P_aw_op (L' := [.ref (w.2.2 6), P_z (od p), P_un]) (st' := [P_z (od p)]) P_i38_4 rfl (show P_aw _ _ _ 5 [.ref (w.2.2 6), P_z (od p), P_un] [P_z (od p)] _ _ from ?_)
  refine P_aw_op (L' := [.ref (w.2.2 6), P_z (od p), P_un]) (st' := [.ref (w.2.2 6), P_z (od p)]) P_i38_5 rfl (show P_aw _ _ _ 6 [.ref (w.2.2 6), P_z (od p), P_un] [.ref (w.2.2 6), P_z (od p)] _ _ from ?_)
  refine P_aw_getv P_i38_6 (hw.2.1 6 (by decide)) (hw.s rfl) rfl rfl (hA.1) (show P_aw _ _ _ 9 [.ref (w.2.2 6), P_z (od p), P_un] [P_z ns, P_z (od p)] _ _ from ?_)
  refine P_aw_icf P_i38_9 ⟨by omega, by omega⟩ ⟨by omega, by omega⟩ (P_ci_gef (by omega)) (show P_aw _ _ _ 12 [.ref (w.2.2 6), P_z (od p), P_un] [] _ _ from ?_)
  refine P_aw_op (L' := [.ref (w.2.2 6), P_z (od p), P_un]) (st' := [P_z (od p)]) P_i38_12 rfl (show P_aw _ _ _ 13 [.ref (w.2.2 6), P_z (od p), P_un] [P_z (od p)] _ _ from ?_)
  refine P_aw_op (L' := [.ref (w.2.2 6), P_z (od p), P_un]) (st' := [.ref (w.2.2 6), P_z (od p)]) P_i38_13 rfl (show P_aw _ _ _ 14 [.ref (w.2.2 6), P_z (od p), P_un] [.ref (w.2.2 6), P_z (od p)] _ _ from ?_)
  refine P_aw_getR P_i38_14 (hw.2.1 6 (by decide)) (hw.s rfl) rfl rfl (show P_aw _ _ _ 17 [.ref (w.2.2 6), P_z (od p), P_un] [.ref (w.2.2 9), P_z (od p)] _ _ from ?_)
  refine P_aw_rlen P_i38_17 (hw.2.1 9 (by decide)) (hw.s rfl) (show P_aw _ _ _ 18 [.ref (w.2.2 6), P_z (od p), P_un] [P_z 3, P_z (od p)] _ _ from ?_)
  refine P_aw_ict P_i38_18 ⟨by omega, by omega⟩ ⟨by decide, by decide⟩ (P_ci_ltt (by omega)) (show P_aw _ _ _ 26 [.ref (w.2.2 6), P_z (od p), P_un] [] _ _ from ?_)
  refine P_aw_op (L' := [.ref (w.2.2 6), P_z (od p), P_un]) (st' := [.ref (w.2.2 6)]) P_i38_26 rfl (show P_aw _ _ _ 27 [.ref (w.2.2 6), P_z (od p), P_un] [.ref (w.2.2 6)] _ _ from ?_)
  refine P_aw_getR P_i38_27 (hw.2.1 6 (by decide)) (hw.s rfl) rfl rfl (show P_aw _ _ _ 30 [.ref (w.2.2 6), P_z (od p), P_un] [.ref (w.2.2 9)] _ _ from ?_)
  refine P_aw_op (L' := [.ref (w.2.2 6), P_z (od p), P_un]) (st' := [P_z (od p), .ref (w.2.2 9)]) P_i38_30 rfl (show P_aw _ _ _ 31 [.ref (w.2.2 6), P_z (od p), P_un] [P_z (od p), .ref (w.2.2 9)] _ _ from ?_)
  have hg2 := (hA.2.2 (od p) (by omega) (by omega)).2.1.1
  refine P_aw_rldv P_i38_31 (hw.2.1 9 (by decide)) (hw.s rfl) (by decide) (by omega) (by omega) (by decide) ((hA.2.2 (od p) (by omega) (by omega)).1) (by omega) (show P_aw _ _ _ 32 [.ref (w.2.2 6), P_z (od p), P_un] [.ref (w.2.2 (tb (od p)))] _ _ from ?_)
  refine P_aw_op (L' := [.ref (w.2.2 6), P_z (od p), .ref (w.2.2 (tb (od p)))]) (st' := []) P_i38_32 rfl (show P_aw _ _ _ 33 [.ref (w.2.2 6), P_z (od p), .ref (w.2.2 (tb (od p)))] [] _ _ from ?_)
  refine P_aw_op (L' := [.ref (w.2.2 6), P_z (od p), .ref (w.2.2 (tb (od p)))]) (st' := [.ref (w.2.2 (tb (od p)))]) P_i38_33 rfl (show P_aw _ _ _ 34 [.ref (w.2.2 6), P_z (od p), .ref (w.2.2 (tb (od p)))] [.ref (w.2.2 (tb (od p)))] _ _ from ?_)
  refine P_aw_brt P_i38_34 rfl (show P_aw _ _ _ 44 [.ref (w.2.2 6), P_z (od p), .ref (w.2.2 (tb (od p)))] [] _ _ from ?_)
  refine P_aw_op (L' := [.ref (w.2.2 6), P_z (od p), .ref (w.2.2 (tb (od p)))]) (st' := [.ref (w.2.2 (tb (od p)))]) P_i38_44 rfl (show P_aw _ _ _ 45 [.ref (w.2.2 6), P_z (od p), .ref (w.2.2 (tb (od p)))] [.ref (w.2.2 (tb (od p)))] _ _ from ?_)
  refine P_aw_end P_i38_45 rfl rfl (fun _ => rfl) rfl ?_
  show P_aw _ _ _ 34 [.ref (w.2.2 31), P_z p, P_z (od p), P_un, P_un] [.ref (w.2.2 (tb (od p)))] _ _
  refine P_aw_call P_i134_34 rfl rfl (fun _ => rfl) rfl rfl rfl rfl (y2 := 120) (as := [.ref (w.2.2 (tb (od p)))]) (r0 := []) (P_inv_v (hA.2.2 (od p) (by omega) (by omega)).2.1.2.1.2 (hA.2.2 (od p) (by omega) (by omega)).2.1.2.1.1 rfl rfl) (Nat.le_of_ble_eq_true rfl) (by decide) rfl (Nat.le_of_ble_eq_true rfl) (show P_aw _ _ _ 0 [.ref (w.2.2 (tb (od p)))] [] _ _ from ?_)
  refine P_aw_op (L' := [.ref (w.2.2 (tb (od p)))]) (st' := [.ref (w.2.2 (tb (od p)))]) P_i120_0 rfl (show P_aw _ _ _ 1 [.ref (w.2.2 (tb (od p)))] [.ref (w.2.2 (tb (od p)))] _ _ from ?_)
  have hg3 := (hA.2.2 (od p) (by omega) (by omega)).2.2.2.1
  refine P_aw_getv P_i120_1 (hA.2.2 (od p) (by omega) (by omega)).2.1.2.1.2 (hA.2.2 (od p) (by omega) (by omega)).2.1.2.1.1 rfl rfl ((hA.2.2 (od p) (by omega) (by omega)).2.2.1) (show P_aw _ _ _ 4 [.ref (w.2.2 (tb (od p)))] [P_z (rw (od p))] _ _ from ?_)
  refine P_aw_end P_i120_4 rfl rfl (fun _ => rfl) rfl ?_
  show P_aw _ _ _ 37 [.ref (w.2.2 31), P_z p, P_z (od p), P_un, P_un] [P_z (rw (od p))] _ _
  refine P_aw_op (L' := [.ref (w.2.2 31), P_z p, P_z (od p), P_z (rw (od p)), P_un]) (st' := []) P_i134_37 rfl (show P_aw _ _ _ 38 [.ref (w.2.2 31), P_z p, P_z (od p), P_z (rw (od p)), P_un] [] _ _ from ?_)
  refine P_aw_op (L' := [.ref (w.2.2 31), P_z p, P_z (od p), P_z (rw (od p)), P_un]) (st' := [P_z 0]) P_i134_38 rfl (show P_aw _ _ _ 39 [.ref (w.2.2 31), P_z p, P_z (od p), P_z (rw (od p)), P_un] [P_z 0] _ _ from ?_)
  refine P_aw_op (L' := [.ref (w.2.2 31), P_z p, P_z (od p), P_z (rw (od p)), P_z 0]) (st' := []) P_i134_39 rfl (show P_aw _ _ _ 41 [.ref (w.2.2 31), P_z p, P_z (od p), P_z (rw (od p)), P_z 0] [] _ _ from ?_)
  exact s_gl31 hw hwo1 hms hok htk hI ⟨by omega, by omega⟩ hM (rw (od p)).toNat σ 0 S hW hI0 (by omega) (by omega) (by omega) q

theorem s_go31_2 {w : P_Lw} (hw : P_Cw w) {d : Nat} {Q : P_R → P_A → Prop} {ns : Int} {tb : Int → Nat} {rw : Int → Int} {vr : Int → Int → Int} {cl : Int → Int} {V : Int → Int → Int → Int} {cs : List A_cd} {wo : Int} {od : Int → Int} {most : Int} (hwo1 : -1 ≤ wo ∧ wo ≤ 12) (hms : 0 ≤ most ∧ most ≤ 1000000000) (hok : A_oks ns cs) (htk : A_tks ns cl cs) {Inv : Int → Int → Int → P_A → Prop} (hI : ∀ rd ck mt rd' ck' σ σ', Inv rd ck mt σ → rd ≤ rd' → ck ≤ ck' → A_cn 31 σ σ' → Inv rd' ck' mt σ') (hM : ∀ {d : Nat} {Q : P_R → P_A → Prop} (σ : P_A) (S : A_st), A_Wt w 31 σ ns tb rw vr cl V cs wo od most S → Inv S.2.1 S.2.2.1 (S.2.2.2 - 1) σ → (∀ σ', (∀ a b, ¬ (33 ≤ a ∧ a ≤ 39) → ¬ (a = 31 ∧ b = 14) → σ' a b = σ a b) → Inv S.2.1 S.2.2.1 S.2.2.2 σ' → Q (.inl none) σ') → P_aw w (d + 6) 9 0 [.ref (w.2.2 31)] [] σ Q) {p : Int} (hp : 0 ≤ p ∧ p + 2 = ns) (σ : P_A) (S : A_st) (hW : A_Wt w 31 σ ns tb rw vr cl V cs wo od most S) (hI0 : Inv S.2.1 S.2.2.1 S.2.2.2 σ) (q : (∀ σ', (∀ a b, ¬ (31 ≤ a ∧ a ≤ 39) → σ' a b = σ a b) → (∀ b, b = 15 ∨ b = 16 → σ' 31 b = σ 31 b) → A_Wt w 31 σ' ns tb rw vr cl V cs wo od most (A_go most (fun p ρ => A_hl (A_val V rw ρ) p wo cs 0) od rw 2 p S) → Inv (A_go most (fun p ρ => A_hl (A_val V rw ρ) p wo cs 0) od rw 2 p S).2.1 (A_go most (fun p ρ => A_hl (A_val V rw ρ) p wo cs 0) od rw 2 p S).2.2.1 (A_go most (fun p ρ => A_hl (A_val V rw ρ) p wo cs 0) od rw 2 p S).2.2.2 σ' → Q (.inl none) σ')) : P_aw w (d + 8) 134 0 [.ref (w.2.2 31), P_z p, P_un, P_un, P_un] [] σ Q := by
  obtain ⟨hS, hO, hms4, hrd, hck, hmt, hmr⟩ := id hW
  obtain ⟨hA, hX, hK, hwo, hρ⟩ := id hS
  have hns := hA.2.1
  have hod := (hO p (by omega) (by omega)).2
  have hrw := (hA.2.2 (od p) (by omega) (by omega)).2.2.2.1
  refine P_aw_op (L' := [.ref (w.2.2 31), P_z p, P_un, P_un, P_un]) (st' := [P_z p]) P_i134_0 rfl (show P_aw _ _ _ 1 [.ref (w.2.2 31), P_z p, P_un, P_un, P_un] [P_z p] _ _ from ?_)
  refine P_aw_op (L' := [.ref (w.2.2 31), P_z p, P_un, P_un, P_un]) (st' := [.ref (w.2.2 31), P_z p]) P_i134_1 rfl (show P_aw _ _ _ 2 [.ref (w.2.2 31), P_z p, P_un, P_un, P_un] [.ref (w.2.2 31), P_z p] _ _ from ?_)
  refine P_aw_getR P_i134_2 (hw.2.1 31 (by decide)) (hw.s rfl) rfl rfl (show P_aw _ _ _ 5 [.ref (w.2.2 31), P_z p, P_un, P_un, P_un] [.ref (w.2.2 6), P_z p] _ _ from ?_)
  refine P_aw_call P_i134_5 rfl rfl (fun _ => rfl) rfl rfl rfl rfl (y2 := 30) (as := [.ref (w.2.2 6)]) (r0 := [P_z p]) (P_inv_v (hw.2.1 6 (by decide)) (hw.s rfl) rfl rfl) (Nat.le_of_ble_eq_true rfl) (by decide) rfl (Nat.le_of_ble_eq_true rfl) (show P_aw _ _ _ 0 [.ref (w.2.2 6)] [] _ _ from ?_)
  refine P_aw_op (L' := [.ref (w.2.2 6)]) (st' := [.ref (w.2.2 6)]) P_i30_0 rfl (show P_aw _ _ _ 1 [.ref (w.2.2 6)] [.ref (w.2.2 6)] _ _ from ?_)
  refine P_aw_getv P_i30_1 (hw.2.1 6 (by decide)) (hw.s rfl) rfl rfl (hA.1) (show P_aw _ _ _ 4 [.ref (w.2.2 6)] [P_z ns] _ _ from ?_)
  refine P_aw_end P_i30_4 rfl rfl (fun _ => rfl) rfl ?_
  show P_aw _ _ _ 8 [.ref (w.2.2 31), P_z p, P_un, P_un, P_un] [P_z ns, P_z p] _ _
  refine P_aw_icf P_i134_8 ⟨by omega, by omega⟩ ⟨by omega, by omega⟩ (P_ci_gef (by omega)) (show P_aw _ _ _ 11 [.ref (w.2.2 31), P_z p, P_un, P_un, P_un] [] _ _ from ?_)
  refine P_aw_op (L' := [.ref (w.2.2 31), P_z p, P_un, P_un, P_un]) (st' := [P_z p]) P_i134_11 rfl (show P_aw _ _ _ 12 [.ref (w.2.2 31), P_z p, P_un, P_un, P_un] [P_z p] _ _ from ?_)
  refine P_aw_op (L' := [.ref (w.2.2 31), P_z p, P_un, P_un, P_un]) (st' := [P_z 3, P_z p]) P_i134_12 rfl (show P_aw _ _ _ 13 [.ref (w.2.2 31), P_z p, P_un, P_un, P_un] [P_z 3, P_z p] _ _ from ?_)
  refine P_aw_ict P_i134_13 ⟨by omega, by omega⟩ ⟨by decide, by decide⟩ (P_ci_ltt (by omega)) (show P_aw _ _ _ 17 [.ref (w.2.2 31), P_z p, P_un, P_un, P_un] [] _ _ from ?_)
  refine P_aw_op (L' := [.ref (w.2.2 31), P_z p, P_un, P_un, P_un]) (st' := [.ref (w.2.2 31)]) P_i134_17 rfl (show P_aw _ _ _ 18 [.ref (w.2.2 31), P_z p, P_un, P_un, P_un] [.ref (w.2.2 31)] _ _ from ?_)
  refine P_aw_getR P_i134_18 (hw.2.1 31 (by decide)) (hw.s rfl) rfl rfl (show P_aw _ _ _ 21 [.ref (w.2.2 31), P_z p, P_un, P_un, P_un] [.ref (w.2.2 13)] _ _ from ?_)
  refine P_aw_op (L' := [.ref (w.2.2 31), P_z p, P_un, P_un, P_un]) (st' := [P_z p, .ref (w.2.2 13)]) P_i134_21 rfl (show P_aw _ _ _ 22 [.ref (w.2.2 31), P_z p, P_un, P_un, P_un] [P_z p, .ref (w.2.2 13)] _ _ from ?_)
  refine P_aw_call P_i134_22 rfl rfl (fun _ => rfl) rfl rfl rfl rfl (y2 := 58) (as := [.ref (w.2.2 13), P_z p]) (r0 := []) (P_inv_v (hw.2.1 13 (by decide)) (hw.s rfl) rfl rfl) (Nat.le_of_ble_eq_true rfl) (by decide) rfl (Nat.le_of_ble_eq_true rfl) (show P_aw _ _ _ 0 [.ref (w.2.2 13), P_z p] [] _ _ from ?_)
  refine P_aw_op (L' := [.ref (w.2.2 13), P_z p]) (st' := [.ref (w.2.2 13)]) P_i58_0 rfl (show P_aw _ _ _ 1 [.ref (w.2.2 13), P_z p] [.ref (w.2.2 13)] _ _ from ?_)
  refine P_aw_getR P_i58_1 (hw.2.1 13 (by decide)) (hw.s rfl) rfl rfl (show P_aw _ _ _ 4 [.ref (w.2.2 13), P_z p] [.ref (w.2.2 28)] _ _ from ?_)
  refine P_aw_op (L' := [.ref (w.2.2 13), P_z p]) (st' := [P_z p, .ref (w.2.2 28)]) P_i58_4 rfl (show P_aw _ _ _ 5 [.ref (w.2.2 13), P_z p] [P_z p, .ref (w.2.2 28)] _ _ from ?_)
  refine P_aw_call P_i58_5 rfl rfl (fun _ => rfl) rfl rfl rfl rfl (y2 := 178) (as := [.ref (w.2.2 28), P_z p]) (r0 := []) (fun _ _ => rfl) (Nat.le_of_ble_eq_true rfl) (by decide) rfl (Nat.le_of_ble_eq_true rfl) (show P_aw _ _ _ 0 [.ref (w.2.2 28), P_z p] [] _ _ from ?_)
  refine P_aw_op (L' := [.ref (w.2.2 28), P_z p]) (st' := [P_z p]) P_i178_0 rfl (show P_aw _ _ _ 1 [.ref (w.2.2 28), P_z p] [P_z p] _ _ from ?_)
  refine P_aw_izf P_i178_1 ⟨by omega, by omega⟩ (P_ci_ltf (by omega)) (show P_aw _ _ _ 4 [.ref (w.2.2 28), P_z p] [] _ _ from ?_)
  refine P_aw_op (L' := [.ref (w.2.2 28), P_z p]) (st' := [P_z p]) P_i178_4 rfl (show P_aw _ _ _ 5 [.ref (w.2.2 28), P_z p] [P_z p] _ _ from ?_)
  refine P_aw_op (L' := [.ref (w.2.2 28), P_z p]) (st' := [.ref (w.2.2 28), P_z p]) P_i178_5 rfl (show P_aw _ _ _ 6 [.ref (w.2.2 28), P_z p] [.ref (w.2.2 28), P_z p] _ _ from ?_)
  refine P_aw_alen P_i178_6 (hw.2.1 28 (by decide)) (hw.s rfl) (show P_aw _ _ _ 7 [.ref (w.2.2 28), P_z p] [P_z 3, P_z p] _ _ from ?_)
  refine P_aw_icf P_i178_7 ⟨by omega, by omega⟩ ⟨by decide, by decide⟩ (P_ci_gef (by omega)) (show P_aw _ _ _ 10 [.ref (w.2.2 28), P_z p] [] _ _ from ?_)
  refine P_aw_op (L' := [.ref (w.2.2 28), P_z p]) (st' := [.ref (w.2.2 28)]) P_i178_10 rfl (show P_aw _ _ _ 11 [.ref (w.2.2 28), P_z p] [.ref (w.2.2 28)] _ _ from ?_)
  refine P_aw_op (L' := [.ref (w.2.2 28), P_z p]) (st' := [P_z p, .ref (w.2.2 28)]) P_i178_11 rfl (show P_aw _ _ _ 12 [.ref (w.2.2 28), P_z p] [P_z p, .ref (w.2.2 28)] _ _ from ?_)
  have hg1 := (hO p (by omega) (by omega)).2
  refine P_aw_aldv P_i178_12 (hw.2.1 28 (by decide)) (hw.s rfl) (by omega) (by omega) (by decide) ((hO p (by omega) (by omega)).1) (show P_aw _ _ _ 13 [.ref (w.2.2 28), P_z p] [P_z (od p)] _ _ from ?_)
  refine P_aw_goto P_i178_13 (show P_aw _ _ _ 17 [.ref (w.2.2 28), P_z p] [P_z (od p)] _ _ from ?_)
  refine P_aw_end P_i178_17 rfl rfl (fun _ => rfl) rfl ?_
  show P_aw _ _ _ 8 [.ref (w.2.2 13), P_z p] [P_z (od p)] _ _
  refine P_aw_end P_i58_8 rfl rfl (fun _ => rfl) rfl ?_
  show P_aw _ _ _ 25 [.ref (w.2.2 31), P_z p, P_un, P_un, P_un] [P_z (od p)] _ _
  refine P_aw_op (L' := [.ref (w.2.2 31), P_z p, P_z (od p), P_un, P_un]) (st' := []) P_i134_25 rfl (show P_aw _ _ _ 26 [.ref (w.2.2 31), P_z p, P_z (od p), P_un, P_un] [] _ _ from ?_)
  refine P_aw_op (L' := [.ref (w.2.2 31), P_z p, P_z (od p), P_un, P_un]) (st' := [.ref (w.2.2 31)]) P_i134_26 rfl (show P_aw _ _ _ 27 [.ref (w.2.2 31), P_z p, P_z (od p), P_un, P_un] [.ref (w.2.2 31)] _ _ from ?_)
  refine P_aw_getR P_i134_27 (hw.2.1 31 (by decide)) (hw.s rfl) rfl rfl (show P_aw _ _ _ 30 [.ref (w.2.2 31), P_z p, P_z (od p), P_un, P_un] [.ref (w.2.2 6)] _ _ from ?_)
  refine P_aw_op (L' := [.ref (w.2.2 31), P_z p, P_z (od p), P_un, P_un]) (st' := [P_z (od p), .ref (w.2.2 6)]) P_i134_30 rfl (show P_aw _ _ _ 31 [.ref (w.2.2 31), P_z p, P_z (od p), P_un, P_un] [P_z (od p), .ref (w.2.2 6)] _ _ from ?_)
  refine P_aw_call P_i134_31 rfl rfl (fun _ => rfl) rfl rfl rfl rfl (y2 := 38) (as := [.ref (w.2.2 6), P_z (od p)]) (r0 := []) (P_inv_v (hw.2.1 6 (by decide)) (hw.s rfl) rfl rfl) (Nat.le_of_ble_eq_true rfl) (by decide) rfl (Nat.le_of_ble_eq_true rfl) (show P_aw _ _ _ 0 [.ref (w.2.2 6), P_z (od p), P_un] [] _ _ from ?_)
  refine P_aw_op (L' := [.ref (w.2.2 6), P_z (od p), P_un]) (st' := [P_z (od p)]) P_i38_0 rfl (show P_aw _ _ _ 1 [.ref (w.2.2 6), P_z (od p), P_un] [P_z (od p)] _ _ from ?_)
  refine P_aw_izf P_i38_1 ⟨by omega, by omega⟩ (P_ci_ltf (by omega)) (show P_aw _ _ _ 4 [.ref (w.2.2 6), P_z (od p), P_un] [] _ _ from ?_)
  refine P_aw_op (L' := [.ref (w.2.2 6), P_z (od p), P_un]) (st' := [P_z (od p)]) P_i38_4 rfl (show P_aw _ _ _ 5 [.ref (w.2.2 6), P_z (od p), P_un] [P_z (od p)] _ _ from ?_)
  refine P_aw_op (L' := [.ref (w.2.2 6), P_z (od p), P_un]) (st' := [.ref (w.2.2 6), P_z (od p)]) P_i38_5 rfl (show P_aw _ _ _ 6 [.ref (w.2.2 6), P_z (od p), P_un] [.ref (w.2.2 6), P_z (od p)] _ _ from ?_)
  refine P_aw_getv P_i38_6 (hw.2.1 6 (by decide)) (hw.s rfl) rfl rfl (hA.1) (show P_aw _ _ _ 9 [.ref (w.2.2 6), P_z (od p), P_un] [P_z ns, P_z (od p)] _ _ from ?_)
  refine P_aw_icf P_i38_9 ⟨by omega, by omega⟩ ⟨by omega, by omega⟩ (P_ci_gef (by omega)) (show P_aw _ _ _ 12 [.ref (w.2.2 6), P_z (od p), P_un] [] _ _ from ?_)
  refine P_aw_op (L' := [.ref (w.2.2 6), P_z (od p), P_un]) (st' := [P_z (od p)]) P_i38_12 rfl (show P_aw _ _ _ 13 [.ref (w.2.2 6), P_z (od p), P_un] [P_z (od p)] _ _ from ?_)
  refine P_aw_op (L' := [.ref (w.2.2 6), P_z (od p), P_un]) (st' := [.ref (w.2.2 6), P_z (od p)]) P_i38_13 rfl (show P_aw _ _ _ 14 [.ref (w.2.2 6), P_z (od p), P_un] [.ref (w.2.2 6), P_z (od p)] _ _ from ?_)
  refine P_aw_getR P_i38_14 (hw.2.1 6 (by decide)) (hw.s rfl) rfl rfl (show P_aw _ _ _ 17 [.ref (w.2.2 6), P_z (od p), P_un] [.ref (w.2.2 9), P_z (od p)] _ _ from ?_)
  refine P_aw_rlen P_i38_17 (hw.2.1 9 (by decide)) (hw.s rfl) (show P_aw _ _ _ 18 [.ref (w.2.2 6), P_z (od p), P_un] [P_z 3, P_z (od p)] _ _ from ?_)
  refine P_aw_ict P_i38_18 ⟨by omega, by omega⟩ ⟨by decide, by decide⟩ (P_ci_ltt (by omega)) (show P_aw _ _ _ 26 [.ref (w.2.2 6), P_z (od p), P_un] [] _ _ from ?_)
  refine P_aw_op (L' := [.ref (w.2.2 6), P_z (od p), P_un]) (st' := [.ref (w.2.2 6)]) P_i38_26 rfl (show P_aw _ _ _ 27 [.ref (w.2.2 6), P_z (od p), P_un] [.ref (w.2.2 6)] _ _ from ?_)
  refine P_aw_getR P_i38_27 (hw.2.1 6 (by decide)) (hw.s rfl) rfl rfl (show P_aw _ _ _ 30 [.ref (w.2.2 6), P_z (od p), P_un] [.ref (w.2.2 9)] _ _ from ?_)
  refine P_aw_op (L' := [.ref (w.2.2 6), P_z (od p), P_un]) (st' := [P_z (od p), .ref (w.2.2 9)]) P_i38_30 rfl (show P_aw _ _ _ 31 [.ref (w.2.2 6), P_z (od p), P_un] [P_z (od p), .ref (w.2.2 9)] _ _ from ?_)
  have hg2 := (hA.2.2 (od p) (by omega) (by omega)).2.1.1
  refine P_aw_rldv P_i38_31 (hw.2.1 9 (by decide)) (hw.s rfl) (by decide) (by omega) (by omega) (by decide) ((hA.2.2 (od p) (by omega) (by omega)).1) (by omega) (show P_aw _ _ _ 32 [.ref (w.2.2 6), P_z (od p), P_un] [.ref (w.2.2 (tb (od p)))] _ _ from ?_)
  refine P_aw_op (L' := [.ref (w.2.2 6), P_z (od p), .ref (w.2.2 (tb (od p)))]) (st' := []) P_i38_32 rfl (show P_aw _ _ _ 33 [.ref (w.2.2 6), P_z (od p), .ref (w.2.2 (tb (od p)))] [] _ _ from ?_)
  refine P_aw_op (L' := [.ref (w.2.2 6), P_z (od p), .ref (w.2.2 (tb (od p)))]) (st' := [.ref (w.2.2 (tb (od p)))]) P_i38_33 rfl (show P_aw _ _ _ 34 [.ref (w.2.2 6), P_z (od p), .ref (w.2.2 (tb (od p)))] [.ref (w.2.2 (tb (od p)))] _ _ from ?_)
  refine P_aw_brt P_i38_34 rfl (show P_aw _ _ _ 44 [.ref (w.2.2 6), P_z (od p), .ref (w.2.2 (tb (od p)))] [] _ _ from ?_)
  refine P_aw_op (L' := [.ref (w.2.2 6), P_z (od p), .ref (w.2.2 (tb (od p)))]) (st' := [.ref (w.2.2 (tb (od p)))]) P_i38_44 rfl (show P_aw _ _ _ 45 [.ref (w.2.2 6), P_z (od p), .ref (w.2.2 (tb (od p)))] [.ref (w.2.2 (tb (od p)))] _ _ from ?_)
  refine P_aw_end P_i38_45 rfl rfl (fun _ => rfl) rfl ?_
  show P_aw _ _ _ 34 [.ref (w.2.2 31), P_z p, P_z (od p), P_un, P_un] [.ref (w.2.2 (tb (od p)))] _ _
  refine P_aw_call P_i134_34 rfl rfl (fun _ => rfl) rfl rfl rfl rfl (y2 := 120) (as := [.ref (w.2.2 (tb (od p)))]) (r0 := []) (P_inv_v (hA.2.2 (od p) (by omega) (by omega)).2.1.2.1.2 (hA.2.2 (od p) (by omega) (by omega)).2.1.2.1.1 rfl rfl) (Nat.le_of_ble_eq_true rfl) (by decide) rfl (Nat.le_of_ble_eq_true rfl) (show P_aw _ _ _ 0 [.ref (w.2.2 (tb (od p)))] [] _ _ from ?_)
  refine P_aw_op (L' := [.ref (w.2.2 (tb (od p)))]) (st' := [.ref (w.2.2 (tb (od p)))]) P_i120_0 rfl (show P_aw _ _ _ 1 [.ref (w.2.2 (tb (od p)))] [.ref (w.2.2 (tb (od p)))] _ _ from ?_)
  have hg3 := (hA.2.2 (od p) (by omega) (by omega)).2.2.2.1
  refine P_aw_getv P_i120_1 (hA.2.2 (od p) (by omega) (by omega)).2.1.2.1.2 (hA.2.2 (od p) (by omega) (by omega)).2.1.2.1.1 rfl rfl ((hA.2.2 (od p) (by omega) (by omega)).2.2.1) (show P_aw _ _ _ 4 [.ref (w.2.2 (tb (od p)))] [P_z (rw (od p))] _ _ from ?_)
  refine P_aw_end P_i120_4 rfl rfl (fun _ => rfl) rfl ?_
  show P_aw _ _ _ 37 [.ref (w.2.2 31), P_z p, P_z (od p), P_un, P_un] [P_z (rw (od p))] _ _
  refine P_aw_op (L' := [.ref (w.2.2 31), P_z p, P_z (od p), P_z (rw (od p)), P_un]) (st' := []) P_i134_37 rfl (show P_aw _ _ _ 38 [.ref (w.2.2 31), P_z p, P_z (od p), P_z (rw (od p)), P_un] [] _ _ from ?_)
  refine P_aw_op (L' := [.ref (w.2.2 31), P_z p, P_z (od p), P_z (rw (od p)), P_un]) (st' := [P_z 0]) P_i134_38 rfl (show P_aw _ _ _ 39 [.ref (w.2.2 31), P_z p, P_z (od p), P_z (rw (od p)), P_un] [P_z 0] _ _ from ?_)
  refine P_aw_op (L' := [.ref (w.2.2 31), P_z p, P_z (od p), P_z (rw (od p)), P_z 0]) (st' := []) P_i134_39 rfl (show P_aw _ _ _ 41 [.ref (w.2.2 31), P_z p, P_z (od p), P_z (rw (od p)), P_z 0] [] _ _ from ?_)
  exact s_gi31 (k := 1) hw hwo1 hms hok htk hI ⟨by omega, by omega⟩ (fun σ S hW hI0 q => s_go31_1 hw hwo1 hms hok htk hI hM ⟨by omega, by omega⟩ σ S hW hI0 q) (rw (od p)).toNat σ 0 S hW hI0 (by omega) (by omega) (by omega) q

theorem s_go31_3 {w : P_Lw} (hw : P_Cw w) {d : Nat} {Q : P_R → P_A → Prop} {ns : Int} {tb : Int → Nat} {rw : Int → Int} {vr : Int → Int → Int} {cl : Int → Int} {V : Int → Int → Int → Int} {cs : List A_cd} {wo : Int} {od : Int → Int} {most : Int} (hwo1 : -1 ≤ wo ∧ wo ≤ 12) (hms : 0 ≤ most ∧ most ≤ 1000000000) (hok : A_oks ns cs) (htk : A_tks ns cl cs) {Inv : Int → Int → Int → P_A → Prop} (hI : ∀ rd ck mt rd' ck' σ σ', Inv rd ck mt σ → rd ≤ rd' → ck ≤ ck' → A_cn 31 σ σ' → Inv rd' ck' mt σ') (hM : ∀ {d : Nat} {Q : P_R → P_A → Prop} (σ : P_A) (S : A_st), A_Wt w 31 σ ns tb rw vr cl V cs wo od most S → Inv S.2.1 S.2.2.1 (S.2.2.2 - 1) σ → (∀ σ', (∀ a b, ¬ (33 ≤ a ∧ a ≤ 39) → ¬ (a = 31 ∧ b = 14) → σ' a b = σ a b) → Inv S.2.1 S.2.2.1 S.2.2.2 σ' → Q (.inl none) σ') → P_aw w (d + 6) 9 0 [.ref (w.2.2 31)] [] σ Q) {p : Int} (hp : 0 ≤ p ∧ p + 3 = ns) (σ : P_A) (S : A_st) (hW : A_Wt w 31 σ ns tb rw vr cl V cs wo od most S) (hI0 : Inv S.2.1 S.2.2.1 S.2.2.2 σ) (q : (∀ σ', (∀ a b, ¬ (31 ≤ a ∧ a ≤ 39) → σ' a b = σ a b) → (∀ b, b = 15 ∨ b = 16 → σ' 31 b = σ 31 b) → A_Wt w 31 σ' ns tb rw vr cl V cs wo od most (A_go most (fun p ρ => A_hl (A_val V rw ρ) p wo cs 0) od rw 3 p S) → Inv (A_go most (fun p ρ => A_hl (A_val V rw ρ) p wo cs 0) od rw 3 p S).2.1 (A_go most (fun p ρ => A_hl (A_val V rw ρ) p wo cs 0) od rw 3 p S).2.2.1 (A_go most (fun p ρ => A_hl (A_val V rw ρ) p wo cs 0) od rw 3 p S).2.2.2 σ' → Q (.inl none) σ')) : P_aw w (d + 9) 134 0 [.ref (w.2.2 31), P_z p, P_un, P_un, P_un] [] σ Q := by
  obtain ⟨hS, hO, hms4, hrd, hck, hmt, hmr⟩ := id hW
  obtain ⟨hA, hX, hK, hwo, hρ⟩ := id hS
  have hns := hA.2.1
  have hod := (hO p (by omega) (by omega)).2
  have hrw := (hA.2.2 (od p) (by omega) (by omega)).2.2.2.1
  refine P_aw_op (L' := [.ref (w.2.2 31), P_z p, P_un, P_un, P_un]) (st' := [P_z p]) P_i134_0 rfl (show P_aw _ _ _ 1 [.ref (w.2.2 31), P_z p, P_un, P_un, P_un] [P_z p] _ _ from ?_)
  refine P_aw_op (L' := [.ref (w.2.2 31), P_z p, P_un, P_un, P_un]) (st' := [.ref (w.2.2 31), P_z p]) P_i134_1 rfl (show P_aw _ _ _ 2 [.ref (w.2.2 31), P_z p, P_un, P_un, P_un] [.ref (w.2.2 31), P_z p] _ _ from ?_)
  refine P_aw_getR P_i134_2 (hw.2.1 31 (by decide)) (hw.s rfl) rfl rfl (show P_aw _ _ _ 5 [.ref (w.2.2 31), P_z p, P_un, P_un, P_un] [.ref (w.2.2 6), P_z p] _ _ from ?_)
  refine P_aw_call P_i134_5 rfl rfl (fun _ => rfl) rfl rfl rfl rfl (y2 := 30) (as := [.ref (w.2.2 6)]) (r0 := [P_z p]) (P_inv_v (hw.2.1 6 (by decide)) (hw.s rfl) rfl rfl) (Nat.le_of_ble_eq_true rfl) (by decide) rfl (Nat.le_of_ble_eq_true rfl) (show P_aw _ _ _ 0 [.ref (w.2.2 6)] [] _ _ from ?_)
  refine P_aw_op (L' := [.ref (w.2.2 6)]) (st' := [.ref (w.2.2 6)]) P_i30_0 rfl (show P_aw _ _ _ 1 [.ref (w.2.2 6)] [.ref (w.2.2 6)] _ _ from ?_)
  refine P_aw_getv P_i30_1 (hw.2.1 6 (by decide)) (hw.s rfl) rfl rfl (hA.1) (show P_aw _ _ _ 4 [.ref (w.2.2 6)] [P_z ns] _ _ from ?_)
  refine P_aw_end P_i30_4 rfl rfl (fun _ => rfl) rfl ?_
  show P_aw _ _ _ 8 [.ref (w.2.2 31), P_z p, P_un, P_un, P_un] [P_z ns, P_z p] _ _
  refine P_aw_icf P_i134_8 ⟨by omega, by omega⟩ ⟨by omega, by omega⟩ (P_ci_gef (by omega)) (show P_aw _ _ _ 11 [.ref (w.2.2 31), P_z p, P_un, P_un, P_un] [] _ _ from ?_)
  refine P_aw_op (L' := [.ref (w.2.2 31), P_z p, P_un, P_un, P_un]) (st' := [P_z p]) P_i134_11 rfl (show P_aw _ _ _ 12 [.ref (w.2.2 31), P_z p, P_un, P_un, P_un] [P_z p] _ _ from ?_)
  refine P_aw_op (L' := [.ref (w.2.2 31), P_z p, P_un, P_un, P_un]) (st' := [P_z 3, P_z p]) P_i134_12 rfl (show P_aw _ _ _ 13 [.ref (w.2.2 31), P_z p, P_un, P_un, P_un] [P_z 3, P_z p] _ _ from ?_)
  refine P_aw_ict P_i134_13 ⟨by omega, by omega⟩ ⟨by decide, by decide⟩ (P_ci_ltt (by omega)) (show P_aw _ _ _ 17 [.ref (w.2.2 31), P_z p, P_un, P_un, P_un] [] _ _ from ?_)
  refine P_aw_op (L' := [.ref (w.2.2 31), P_z p, P_un, P_un, P_un]) (st' := [.ref (w.2.2 31)]) P_i134_17 rfl (show P_aw _ _ _ 18 [.ref (w.2.2 31), P_z p, P_un, P_un, P_un] [.ref (w.2.2 31)] _ _ from ?_)
  refine P_aw_getR P_i134_18 (hw.2.1 31 (by decide)) (hw.s rfl) rfl rfl (show P_aw _ _ _ 21 [.ref (w.2.2 31), P_z p, P_un, P_un, P_un] [.ref (w.2.2 13)] _ _ from ?_)
  refine P_aw_op (L' := [.ref (w.2.2 31), P_z p, P_un, P_un, P_un]) (st' := [P_z p, .ref (w.2.2 13)]) P_i134_21 rfl (show P_aw _ _ _ 22 [.ref (w.2.2 31), P_z p, P_un, P_un, P_un] [P_z p, .ref (w.2.2 13)] _ _ from ?_)
  refine P_aw_call P_i134_22 rfl rfl (fun _ => rfl) rfl rfl rfl rfl (y2 := 58) (as := [.ref (w.2.2 13), P_z p]) (r0 := []) (P_inv_v (hw.2.1 13 (by decide)) (hw.s rfl) rfl rfl) (Nat.le_of_ble_eq_true rfl) (by decide) rfl (Nat.le_of_ble_eq_true rfl) (show P_aw _ _ _ 0 [.ref (w.2.2 13), P_z p] [] _ _ from ?_)
  refine P_aw_op (L' := [.ref (w.2.2 13), P_z p]) (st' := [.ref (w.2.2 13)]) P_i58_0 rfl (show P_aw _ _ _ 1 [.ref (w.2.2 13), P_z p] [.ref (w.2.2 13)] _ _ from ?_)
  refine P_aw_getR P_i58_1 (hw.2.1 13 (by decide)) (hw.s rfl) rfl rfl (show P_aw _ _ _ 4 [.ref (w.2.2 13), P_z p] [.ref (w.2.2 28)] _ _ from ?_)
  refine P_aw_op (L' := [.ref (w.2.2 13), P_z p]) (st' := [P_z p, .ref (w.2.2 28)]) P_i58_4 rfl (show P_aw _ _ _ 5 [.ref (w.2.2 13), P_z p] [P_z p, .ref (w.2.2 28)] _ _ from ?_)
  refine P_aw_call P_i58_5 rfl rfl (fun _ => rfl) rfl rfl rfl rfl (y2 := 178) (as := [.ref (w.2.2 28), P_z p]) (r0 := []) (fun _ _ => rfl) (Nat.le_of_ble_eq_true rfl) (by decide) rfl (Nat.le_of_ble_eq_true rfl) (show P_aw _ _ _ 0 [.ref (w.2.2 28), P_z p] [] _ _ from ?_)
  refine P_aw_op (L' := [.ref (w.2.2 28), P_z p]) (st' := [P_z p]) P_i178_0 rfl (show P_aw _ _ _ 1 [.ref (w.2.2 28), P_z p] [P_z p] _ _ from ?_)
  refine P_aw_izf P_i178_1 ⟨by omega, by omega⟩ (P_ci_ltf (by omega)) (show P_aw _ _ _ 4 [.ref (w.2.2 28), P_z p] [] _ _ from ?_)
  refine P_aw_op (L' := [.ref (w.2.2 28), P_z p]) (st' := [P_z p]) P_i178_4 rfl (show P_aw _ _ _ 5 [.ref (w.2.2 28), P_z p] [P_z p] _ _ from ?_)
  refine P_aw_op (L' := [.ref (w.2.2 28), P_z p]) (st' := [.ref (w.2.2 28), P_z p]) P_i178_5 rfl (show P_aw _ _ _ 6 [.ref (w.2.2 28), P_z p] [.ref (w.2.2 28), P_z p] _ _ from ?_)
  refine P_aw_alen P_i178_6 (hw.2.1 28 (by decide)) (hw.s rfl) (show P_aw _ _ _ 7 [.ref (w.2.2 28), P_z p] [P_z 3, P_z p] _ _ from ?_)
  refine P_aw_icf P_i178_7 ⟨by omega, by omega⟩ ⟨by decide, by decide⟩ (P_ci_gef (by omega)) (show P_aw _ _ _ 10 [.ref (w.2.2 28), P_z p] [] _ _ from ?_)
  refine P_aw_op (L' := [.ref (w.2.2 28), P_z p]) (st' := [.ref (w.2.2 28)]) P_i178_10 rfl (show P_aw _ _ _ 11 [.ref (w.2.2 28), P_z p] [.ref (w.2.2 28)] _ _ from ?_)
  refine P_aw_op (L' := [.ref (w.2.2 28), P_z p]) (st' := [P_z p, .ref (w.2.2 28)]) P_i178_11 rfl (show P_aw _ _ _ 12 [.ref (w.2.2 28), P_z p] [P_z p, .ref (w.2.2 28)] _ _ from ?_)
  have hg1 := (hO p (by omega) (by omega)).2
  refine P_aw_aldv P_i178_12 (hw.2.1 28 (by decide)) (hw.s rfl) (by omega) (by omega) (by decide) ((hO p (by omega) (by omega)).1) (show P_aw _ _ _ 13 [.ref (w.2.2 28), P_z p] [P_z (od p)] _ _ from ?_)
  refine P_aw_goto P_i178_13 (show P_aw _ _ _ 17 [.ref (w.2.2 28), P_z p] [P_z (od p)] _ _ from ?_)
  refine P_aw_end P_i178_17 rfl rfl (fun _ => rfl) rfl ?_
  show P_aw _ _ _ 8 [.ref (w.2.2 13), P_z p] [P_z (od p)] _ _
  refine P_aw_end P_i58_8 rfl rfl (fun _ => rfl) rfl ?_
  show P_aw _ _ _ 25 [.ref (w.2.2 31), P_z p, P_un, P_un, P_un] [P_z (od p)] _ _
  refine P_aw_op (L' := [.ref (w.2.2 31), P_z p, P_z (od p), P_un, P_un]) (st' := []) P_i134_25 rfl (show P_aw _ _ _ 26 [.ref (w.2.2 31), P_z p, P_z (od p), P_un, P_un] [] _ _ from ?_)
  refine P_aw_op (L' := [.ref (w.2.2 31), P_z p, P_z (od p), P_un, P_un]) (st' := [.ref (w.2.2 31)]) P_i134_26 rfl (show P_aw _ _ _ 27 [.ref (w.2.2 31), P_z p, P_z (od p), P_un, P_un] [.ref (w.2.2 31)] _ _ from ?_)
  refine P_aw_getR P_i134_27 (hw.2.1 31 (by decide)) (hw.s rfl) rfl rfl (show P_aw _ _ _ 30 [.ref (w.2.2 31), P_z p, P_z (od p), P_un, P_un] [.ref (w.2.2 6)] _ _ from ?_)
  refine P_aw_op (L' := [.ref (w.2.2 31), P_z p, P_z (od p), P_un, P_un]) (st' := [P_z (od p), .ref (w.2.2 6)]) P_i134_30 rfl (show P_aw _ _ _ 31 [.ref (w.2.2 31), P_z p, P_z (od p), P_un, P_un] [P_z (od p), .ref (w.2.2 6)] _ _ from ?_)
  refine P_aw_call P_i134_31 rfl rfl (fun _ => rfl) rfl rfl rfl rfl (y2 := 38) (as := [.ref (w.2.2 6), P_z (od p)]) (r0 := []) (P_inv_v (hw.2.1 6 (by decide)) (hw.s rfl) rfl rfl) (Nat.le_of_ble_eq_true rfl) (by decide) rfl (Nat.le_of_ble_eq_true rfl) (show P_aw _ _ _ 0 [.ref (w.2.2 6), P_z (od p), P_un] [] _ _ from ?_)
  refine P_aw_op (L' := [.ref (w.2.2 6), P_z (od p), P_un]) (st' := [P_z (od p)]) P_i38_0 rfl (show P_aw _ _ _ 1 [.ref (w.2.2 6), P_z (od p), P_un] [P_z (od p)] _ _ from ?_)
  refine P_aw_izf P_i38_1 ⟨by omega, by omega⟩ (P_ci_ltf (by omega)) (show P_aw _ _ _ 4 [.ref (w.2.2 6), P_z (od p), P_un] [] _ _ from ?_)
  refine P_aw_op (L' := [.ref (w.2.2 6), P_z (od p), P_un]) (st' := [P_z (od p)]) P_i38_4 rfl (show P_aw _ _ _ 5 [.ref (w.2.2 6), P_z (od p), P_un] [P_z (od p)] _ _ from ?_)
  refine P_aw_op (L' := [.ref (w.2.2 6), P_z (od p), P_un]) (st' := [.ref (w.2.2 6), P_z (od p)]) P_i38_5 rfl (show P_aw _ _ _ 6 [.ref (w.2.2 6), P_z (od p), P_un] [.ref (w.2.2 6), P_z (od p)] _ _ from ?_)
  refine P_aw_getv P_i38_6 (hw.2.1 6 (by decide)) (hw.s rfl) rfl rfl (hA.1) (show P_aw _ _ _ 9 [.ref (w.2.2 6), P_z (od p), P_un] [P_z ns, P_z (od p)] _ _ from ?_)
  refine P_aw_icf P_i38_9 ⟨by omega, by omega⟩ ⟨by omega, by omega⟩ (P_ci_gef (by omega)) (show P_aw _ _ _ 12 [.ref (w.2.2 6), P_z (od p), P_un] [] _ _ from ?_)
  refine P_aw_op (L' := [.ref (w.2.2 6), P_z (od p), P_un]) (st' := [P_z (od p)]) P_i38_12 rfl (show P_aw _ _ _ 13 [.ref (w.2.2 6), P_z (od p), P_un] [P_z (od p)] _ _ from ?_)
  refine P_aw_op (L' := [.ref (w.2.2 6), P_z (od p), P_un]) (st' := [.ref (w.2.2 6), P_z (od p)]) P_i38_13 rfl (show P_aw _ _ _ 14 [.ref (w.2.2 6), P_z (od p), P_un] [.ref (w.2.2 6), P_z (od p)] _ _ from ?_)
  refine P_aw_getR P_i38_14 (hw.2.1 6 (by decide)) (hw.s rfl) rfl rfl (show P_aw _ _ _ 17 [.ref (w.2.2 6), P_z (od p), P_un] [.ref (w.2.2 9), P_z (od p)] _ _ from ?_)
  refine P_aw_rlen P_i38_17 (hw.2.1 9 (by decide)) (hw.s rfl) (show P_aw _ _ _ 18 [.ref (w.2.2 6), P_z (od p), P_un] [P_z 3, P_z (od p)] _ _ from ?_)
  refine P_aw_ict P_i38_18 ⟨by omega, by omega⟩ ⟨by decide, by decide⟩ (P_ci_ltt (by omega)) (show P_aw _ _ _ 26 [.ref (w.2.2 6), P_z (od p), P_un] [] _ _ from ?_)
  refine P_aw_op (L' := [.ref (w.2.2 6), P_z (od p), P_un]) (st' := [.ref (w.2.2 6)]) P_i38_26 rfl (show P_aw _ _ _ 27 [.ref (w.2.2 6), P_z (od p), P_un] [.ref (w.2.2 6)] _ _ from ?_)
  refine P_aw_getR P_i38_27 (hw.2.1 6 (by decide)) (hw.s rfl) rfl rfl (show P_aw _ _ _ 30 [.ref (w.2.2 6), P_z (od p), P_un] [.ref (w.2.2 9)] _ _ from ?_)
  refine P_aw_op (L' := [.ref (w.2.2 6), P_z (od p), P_un]) (st' := [P_z (od p), .ref (w.2.2 9)]) P_i38_30 rfl (show P_aw _ _ _ 31 [.ref (w.2.2 6), P_z (od p), P_un] [P_z (od p), .ref (w.2.2 9)] _ _ from ?_)
  have hg2 := (hA.2.2 (od p) (by omega) (by omega)).2.1.1
  refine P_aw_rldv P_i38_31 (hw.2.1 9 (by decide)) (hw.s rfl) (by decide) (by omega) (by omega) (by decide) ((hA.2.2 (od p) (by omega) (by omega)).1) (by omega) (show P_aw _ _ _ 32 [.ref (w.2.2 6), P_z (od p), P_un] [.ref (w.2.2 (tb (od p)))] _ _ from ?_)
  refine P_aw_op (L' := [.ref (w.2.2 6), P_z (od p), .ref (w.2.2 (tb (od p)))]) (st' := []) P_i38_32 rfl (show P_aw _ _ _ 33 [.ref (w.2.2 6), P_z (od p), .ref (w.2.2 (tb (od p)))] [] _ _ from ?_)
  refine P_aw_op (L' := [.ref (w.2.2 6), P_z (od p), .ref (w.2.2 (tb (od p)))]) (st' := [.ref (w.2.2 (tb (od p)))]) P_i38_33 rfl (show P_aw _ _ _ 34 [.ref (w.2.2 6), P_z (od p), .ref (w.2.2 (tb (od p)))] [.ref (w.2.2 (tb (od p)))] _ _ from ?_)
  refine P_aw_brt P_i38_34 rfl (show P_aw _ _ _ 44 [.ref (w.2.2 6), P_z (od p), .ref (w.2.2 (tb (od p)))] [] _ _ from ?_)
  refine P_aw_op (L' := [.ref (w.2.2 6), P_z (od p), .ref (w.2.2 (tb (od p)))]) (st' := [.ref (w.2.2 (tb (od p)))]) P_i38_44 rfl (show P_aw _ _ _ 45 [.ref (w.2.2 6), P_z (od p), .ref (w.2.2 (tb (od p)))] [.ref (w.2.2 (tb (od p)))] _ _ from ?_)
  refine P_aw_end P_i38_45 rfl rfl (fun _ => rfl) rfl ?_
  show P_aw _ _ _ 34 [.ref (w.2.2 31), P_z p, P_z (od p), P_un, P_un] [.ref (w.2.2 (tb (od p)))] _ _
  refine P_aw_call P_i134_34 rfl rfl (fun _ => rfl) rfl rfl rfl rfl (y2 := 120) (as := [.ref (w.2.2 (tb (od p)))]) (r0 := []) (P_inv_v (hA.2.2 (od p) (by omega) (by omega)).2.1.2.1.2 (hA.2.2 (od p) (by omega) (by omega)).2.1.2.1.1 rfl rfl) (Nat.le_of_ble_eq_true rfl) (by decide) rfl (Nat.le_of_ble_eq_true rfl) (show P_aw _ _ _ 0 [.ref (w.2.2 (tb (od p)))] [] _ _ from ?_)
  refine P_aw_op (L' := [.ref (w.2.2 (tb (od p)))]) (st' := [.ref (w.2.2 (tb (od p)))]) P_i120_0 rfl (show P_aw _ _ _ 1 [.ref (w.2.2 (tb (od p)))] [.ref (w.2.2 (tb (od p)))] _ _ from ?_)
  have hg3 := (hA.2.2 (od p) (by omega) (by omega)).2.2.2.1
  refine P_aw_getv P_i120_1 (hA.2.2 (od p) (by omega) (by omega)).2.1.2.1.2 (hA.2.2 (od p) (by omega) (by omega)).2.1.2.1.1 rfl rfl ((hA.2.2 (od p) (by omega) (by omega)).2.2.1) (show P_aw _ _ _ 4 [.ref (w.2.2 (tb (od p)))] [P_z (rw (od p))] _ _ from ?_)
  refine P_aw_end P_i120_4 rfl rfl (fun _ => rfl) rfl ?_
  show P_aw _ _ _ 37 [.ref (w.2.2 31), P_z p, P_z (od p), P_un, P_un] [P_z (rw (od p))] _ _
  refine P_aw_op (L' := [.ref (w.2.2 31), P_z p, P_z (od p), P_z (rw (od p)), P_un]) (st' := []) P_i134_37 rfl (show P_aw _ _ _ 38 [.ref (w.2.2 31), P_z p, P_z (od p), P_z (rw (od p)), P_un] [] _ _ from ?_)
  refine P_aw_op (L' := [.ref (w.2.2 31), P_z p, P_z (od p), P_z (rw (od p)), P_un]) (st' := [P_z 0]) P_i134_38 rfl (show P_aw _ _ _ 39 [.ref (w.2.2 31), P_z p, P_z (od p), P_z (rw (od p)), P_un] [P_z 0] _ _ from ?_)
  refine P_aw_op (L' := [.ref (w.2.2 31), P_z p, P_z (od p), P_z (rw (od p)), P_z 0]) (st' := []) P_i134_39 rfl (show P_aw _ _ _ 41 [.ref (w.2.2 31), P_z p, P_z (od p), P_z (rw (od p)), P_z 0] [] _ _ from ?_)
  exact s_gi31 (k := 2) hw hwo1 hms hok htk hI ⟨by omega, by omega⟩ (fun σ S hW hI0 q => s_go31_2 hw hwo1 hms hok htk hI hM ⟨by omega, by omega⟩ σ S hW hI0 q) (rw (od p)).toNat σ 0 S hW hI0 (by omega) (by omega) (by omega) q

theorem s_walk31 {w : P_Lw} (hw : P_Cw w) {d : Nat} {Q : P_R → P_A → Prop} {σ : P_A} {ns : Int} {tb : Int → Nat} {rw : Int → Int} {vr : Int → Int → Int} {cl : Int → Int} {V : Int → Int → Int → Int} {cs : List A_cd} {wo : Int} {od : Int → Int} {most : Int} (hwo1 : -1 ≤ wo ∧ wo ≤ 12) (hms : 0 ≤ most ∧ most ≤ 1000000000) (hok : A_oks ns cs) (htk : A_tks ns cl cs) {Inv : Int → Int → Int → P_A → Prop} (hI : ∀ rd ck mt rd' ck' σ σ', Inv rd ck mt σ → rd ≤ rd' → ck ≤ ck' → A_cn 31 σ σ' → Inv rd' ck' mt σ') (hM : ∀ {d : Nat} {Q : P_R → P_A → Prop} (σ : P_A) (S : A_st), A_Wt w 31 σ ns tb rw vr cl V cs wo od most S → Inv S.2.1 S.2.2.1 (S.2.2.2 - 1) σ → (∀ σ', (∀ a b, ¬ (33 ≤ a ∧ a ≤ 39) → ¬ (a = 31 ∧ b = 14) → σ' a b = σ a b) → Inv S.2.1 S.2.2.1 S.2.2.2 σ' → Q (.inl none) σ') → P_aw w (d + 6) 9 0 [.ref (w.2.2 31)] [] σ Q) (hA : A_V w σ ns tb rw vr) (hX : A_X σ ns tb rw cl V) (hK : A_KL σ cs) (hO : A_O σ ns od) (hIn : ∀ σ', (∀ a b, ¬ (a = 31 ∧ 3 ≤ b ∧ b ≤ 7) → a ≠ 31 + 1 → σ' a b = σ a b) → Inv 0 0 0 σ') (q : ∀ σ', (∀ a b, ¬ (31 ≤ a ∧ a ≤ 39) → σ' a b = σ a b) → (∀ b, b = 15 ∨ b = 16 → σ' 31 b = σ 31 b) → A_Wt w 31 σ' ns tb rw vr cl V cs wo od most (A_go most (fun p ρ => A_hl (A_val V rw ρ) p wo cs 0) od rw ns.toNat 0 (fun _ => 0, 0, 0, 0)) → Inv (A_go most (fun p ρ => A_hl (A_val V rw ρ) p wo cs 0) od rw ns.toNat 0 (fun _ => 0, 0, 0, 0)).2.1 (A_go most (fun p ρ => A_hl (A_val V rw ρ) p wo cs 0) od rw ns.toNat 0 (fun _ => 0, 0, 0, 0)).2.2.1 (A_go most (fun p ρ => A_hl (A_val V rw ρ) p wo cs 0) od rw ns.toNat 0 (fun _ => 0, 0, 0, 0)).2.2.2 σ' → Q (.inl none) σ') : P_aw w (d + 10) 133 0 [.ref (w.2.2 31), P_z wo, P_z most] [] σ Q := by
  have hns := hA.2.1
  refine P_aw_op (L' := [.ref (w.2.2 31), P_z wo, P_z most]) (st' := [.ref (w.2.2 31)]) P_i133_0 rfl (show P_aw _ _ _ 1 [.ref (w.2.2 31), P_z wo, P_z most] [.ref (w.2.2 31)] _ _ from ?_)
  refine P_aw_op (L' := [.ref (w.2.2 31), P_z wo, P_z most]) (st' := [P_z wo, .ref (w.2.2 31)]) P_i133_1 rfl (show P_aw _ _ _ 2 [.ref (w.2.2 31), P_z wo, P_z most] [P_z wo, .ref (w.2.2 31)] _ _ from ?_)
  refine P_aw_put P_i133_2 (hw.2.1 31 (by decide)) (hw.s rfl) rfl rfl rfl (show P_aw _ _ _ 5 [.ref (w.2.2 31), P_z wo, P_z most] [] _ _ from ?_)
  refine P_aw_op (L' := [.ref (w.2.2 31), P_z wo, P_z most]) (st' := [.ref (w.2.2 31)]) P_i133_5 rfl (show P_aw _ _ _ 6 [.ref (w.2.2 31), P_z wo, P_z most] [.ref (w.2.2 31)] _ _ from ?_)
  refine P_aw_op (L' := [.ref (w.2.2 31), P_z wo, P_z most]) (st' := [P_z most, .ref (w.2.2 31)]) P_i133_6 rfl (show P_aw _ _ _ 7 [.ref (w.2.2 31), P_z wo, P_z most] [P_z most, .ref (w.2.2 31)] _ _ from ?_)
  refine P_aw_put P_i133_7 (hw.2.1 31 (by decide)) (hw.s rfl) rfl rfl rfl (show P_aw _ _ _ 10 [.ref (w.2.2 31), P_z wo, P_z most] [] _ _ from ?_)
  refine P_aw_op (L' := [.ref (w.2.2 31), P_z wo, P_z most]) (st' := [.ref (w.2.2 31)]) P_i133_10 rfl (show P_aw _ _ _ 11 [.ref (w.2.2 31), P_z wo, P_z most] [.ref (w.2.2 31)] _ _ from ?_)
  refine P_aw_op (L' := [.ref (w.2.2 31), P_z wo, P_z most]) (st' := [P_z 0, .ref (w.2.2 31)]) P_i133_11 rfl (show P_aw _ _ _ 12 [.ref (w.2.2 31), P_z wo, P_z most] [P_z 0, .ref (w.2.2 31)] _ _ from ?_)
  refine P_aw_put P_i133_12 (hw.2.1 31 (by decide)) (hw.s rfl) rfl rfl rfl (show P_aw _ _ _ 15 [.ref (w.2.2 31), P_z wo, P_z most] [] _ _ from ?_)
  refine P_aw_op (L' := [.ref (w.2.2 31), P_z wo, P_z most]) (st' := [.ref (w.2.2 31)]) P_i133_15 rfl (show P_aw _ _ _ 16 [.ref (w.2.2 31), P_z wo, P_z most] [.ref (w.2.2 31)] _ _ from ?_)
  refine P_aw_op (L' := [.ref (w.2.2 31), P_z wo, P_z most]) (st' := [P_z 0, .ref (w.2.2 31)]) P_i133_16 rfl (show P_aw _ _ _ 17 [.ref (w.2.2 31), P_z wo, P_z most] [P_z 0, .ref (w.2.2 31)] _ _ from ?_)
  refine P_aw_put P_i133_17 (hw.2.1 31 (by decide)) (hw.s rfl) rfl rfl rfl (show P_aw _ _ _ 20 [.ref (w.2.2 31), P_z wo, P_z most] [] _ _ from ?_)
  refine P_aw_op (L' := [.ref (w.2.2 31), P_z wo, P_z most]) (st' := [.ref (w.2.2 31)]) P_i133_20 rfl (show P_aw _ _ _ 21 [.ref (w.2.2 31), P_z wo, P_z most] [.ref (w.2.2 31)] _ _ from ?_)
  refine P_aw_op (L' := [.ref (w.2.2 31), P_z wo, P_z most]) (st' := [P_z 0, .ref (w.2.2 31)]) P_i133_21 rfl (show P_aw _ _ _ 22 [.ref (w.2.2 31), P_z wo, P_z most] [P_z 0, .ref (w.2.2 31)] _ _ from ?_)
  refine P_aw_put P_i133_22 (hw.2.1 31 (by decide)) (hw.s rfl) rfl rfl rfl (show P_aw _ _ _ 25 [.ref (w.2.2 31), P_z wo, P_z most] [] _ _ from ?_)
  refine P_aw_op (L' := [.ref (w.2.2 31), P_z wo, P_z most]) (st' := [.ref (w.2.2 31)]) P_i133_25 rfl (show P_aw _ _ _ 26 [.ref (w.2.2 31), P_z wo, P_z most] [.ref (w.2.2 31)] _ _ from ?_)
  refine P_aw_getR P_i133_26 (hw.2.1 31 (by decide)) (hw.s rfl) rfl rfl (show P_aw _ _ _ 29 [.ref (w.2.2 31), P_z wo, P_z most] [.ref (w.2.2 32)] _ _ from ?_)
  refine P_aw_op (L' := [.ref (w.2.2 31), P_z wo, P_z most]) (st' := [P_z 0, .ref (w.2.2 32)]) P_i133_29 rfl (show P_aw _ _ _ 30 [.ref (w.2.2 31), P_z wo, P_z most] [P_z 0, .ref (w.2.2 32)] _ _ from ?_)
  refine P_aw_call P_i133_30 rfl rfl (fun _ => rfl) rfl rfl rfl rfl (y2 := 180) (as := [.ref (w.2.2 32), P_z 0]) (r0 := []) (fun _ _ => rfl) (Nat.le_of_ble_eq_true rfl) (by decide) rfl (Nat.le_of_ble_eq_true rfl) (show P_aw _ _ _ 0 [.ref (w.2.2 32), P_z 0, P_un] [] _ _ from ?_)
  refine P_aw_op (L' := [.ref (w.2.2 32), P_z 0, P_un]) (st' := [P_z 0]) P_i180_0 rfl (show P_aw _ _ _ 1 [.ref (w.2.2 32), P_z 0, P_un] [P_z 0] _ _ from ?_)
  refine P_aw_op (L' := [.ref (w.2.2 32), P_z 0, P_z 0]) (st' := []) P_i180_1 rfl (show P_aw _ _ _ 2 [.ref (w.2.2 32), P_z 0, P_z 0] [] _ _ from ?_)
  refine P_aw_op (L' := [.ref (w.2.2 32), P_z 0, P_z 0]) (st' := [P_z 0]) P_i180_2 rfl (show P_aw _ _ _ 3 [.ref (w.2.2 32), P_z 0, P_z 0] [P_z 0] _ _ from ?_)
  refine P_aw_op (L' := [.ref (w.2.2 32), P_z 0, P_z 0]) (st' := [.ref (w.2.2 32), P_z 0]) P_i180_3 rfl (show P_aw _ _ _ 4 [.ref (w.2.2 32), P_z 0, P_z 0] [.ref (w.2.2 32), P_z 0] _ _ from ?_)
  refine P_aw_alen P_i180_4 (hw.2.1 32 (by decide)) (hw.s rfl) (show P_aw _ _ _ 5 [.ref (w.2.2 32), P_z 0, P_z 0] [P_z 3, P_z 0] _ _ from ?_)
  refine P_aw_icf P_i180_5 ⟨by decide, by decide⟩ ⟨by decide, by decide⟩ (P_ci_gef (by omega)) (show P_aw _ _ _ 8 [.ref (w.2.2 32), P_z 0, P_z 0] [] _ _ from ?_)
  refine P_aw_op (L' := [.ref (w.2.2 32), P_z 0, P_z 0]) (st' := [.ref (w.2.2 32)]) P_i180_8 rfl (show P_aw _ _ _ 9 [.ref (w.2.2 32), P_z 0, P_z 0] [.ref (w.2.2 32)] _ _ from ?_)
  refine P_aw_op (L' := [.ref (w.2.2 32), P_z 0, P_z 0]) (st' := [P_z 0, .ref (w.2.2 32)]) P_i180_9 rfl (show P_aw _ _ _ 10 [.ref (w.2.2 32), P_z 0, P_z 0] [P_z 0, .ref (w.2.2 32)] _ _ from ?_)
  refine P_aw_op (L' := [.ref (w.2.2 32), P_z 0, P_z 0]) (st' := [P_z 0, P_z 0, .ref (w.2.2 32)]) P_i180_10 rfl (show P_aw _ _ _ 11 [.ref (w.2.2 32), P_z 0, P_z 0] [P_z 0, P_z 0, .ref (w.2.2 32)] _ _ from ?_)
  refine P_aw_ast P_i180_11 (hw.2.1 32 (by decide)) (hw.s rfl) (by omega) (by omega) (by decide) (show P_aw _ _ _ 12 [.ref (w.2.2 32), P_z 0, P_z 0] [] _ _ from ?_)
  refine P_aw_op (L' := [.ref (w.2.2 32), P_z 0, P_z 1]) (st' := []) P_i180_12 (P_o_iincv (x := 0) rfl (by decide)) (show P_aw _ _ _ 15 [.ref (w.2.2 32), P_z 0, P_z 1] [] _ _ from ?_)
  refine P_aw_goto P_i180_15 (show P_aw _ _ _ 2 [.ref (w.2.2 32), P_z 0, P_z 1] [] _ _ from ?_)
  refine P_aw_op (L' := [.ref (w.2.2 32), P_z 0, P_z 1]) (st' := [P_z 1]) P_i180_2 rfl (show P_aw _ _ _ 3 [.ref (w.2.2 32), P_z 0, P_z 1] [P_z 1] _ _ from ?_)
  refine P_aw_op (L' := [.ref (w.2.2 32), P_z 0, P_z 1]) (st' := [.ref (w.2.2 32), P_z 1]) P_i180_3 rfl (show P_aw _ _ _ 4 [.ref (w.2.2 32), P_z 0, P_z 1] [.ref (w.2.2 32), P_z 1] _ _ from ?_)
  refine P_aw_alen P_i180_4 (hw.2.1 32 (by decide)) (hw.s rfl) (show P_aw _ _ _ 5 [.ref (w.2.2 32), P_z 0, P_z 1] [P_z 3, P_z 1] _ _ from ?_)
  refine P_aw_icf P_i180_5 ⟨by decide, by decide⟩ ⟨by decide, by decide⟩ (P_ci_gef (by omega)) (show P_aw _ _ _ 8 [.ref (w.2.2 32), P_z 0, P_z 1] [] _ _ from ?_)
  refine P_aw_op (L' := [.ref (w.2.2 32), P_z 0, P_z 1]) (st' := [.ref (w.2.2 32)]) P_i180_8 rfl (show P_aw _ _ _ 9 [.ref (w.2.2 32), P_z 0, P_z 1] [.ref (w.2.2 32)] _ _ from ?_)
  refine P_aw_op (L' := [.ref (w.2.2 32), P_z 0, P_z 1]) (st' := [P_z 1, .ref (w.2.2 32)]) P_i180_9 rfl (show P_aw _ _ _ 10 [.ref (w.2.2 32), P_z 0, P_z 1] [P_z 1, .ref (w.2.2 32)] _ _ from ?_)
  refine P_aw_op (L' := [.ref (w.2.2 32), P_z 0, P_z 1]) (st' := [P_z 0, P_z 1, .ref (w.2.2 32)]) P_i180_10 rfl (show P_aw _ _ _ 11 [.ref (w.2.2 32), P_z 0, P_z 1] [P_z 0, P_z 1, .ref (w.2.2 32)] _ _ from ?_)
  refine P_aw_ast P_i180_11 (hw.2.1 32 (by decide)) (hw.s rfl) (by omega) (by omega) (by decide) (show P_aw _ _ _ 12 [.ref (w.2.2 32), P_z 0, P_z 1] [] _ _ from ?_)
  refine P_aw_op (L' := [.ref (w.2.2 32), P_z 0, P_z 2]) (st' := []) P_i180_12 (P_o_iincv (x := 1) rfl (by decide)) (show P_aw _ _ _ 15 [.ref (w.2.2 32), P_z 0, P_z 2] [] _ _ from ?_)
  refine P_aw_goto P_i180_15 (show P_aw _ _ _ 2 [.ref (w.2.2 32), P_z 0, P_z 2] [] _ _ from ?_)
  refine P_aw_op (L' := [.ref (w.2.2 32), P_z 0, P_z 2]) (st' := [P_z 2]) P_i180_2 rfl (show P_aw _ _ _ 3 [.ref (w.2.2 32), P_z 0, P_z 2] [P_z 2] _ _ from ?_)
  refine P_aw_op (L' := [.ref (w.2.2 32), P_z 0, P_z 2]) (st' := [.ref (w.2.2 32), P_z 2]) P_i180_3 rfl (show P_aw _ _ _ 4 [.ref (w.2.2 32), P_z 0, P_z 2] [.ref (w.2.2 32), P_z 2] _ _ from ?_)
  refine P_aw_alen P_i180_4 (hw.2.1 32 (by decide)) (hw.s rfl) (show P_aw _ _ _ 5 [.ref (w.2.2 32), P_z 0, P_z 2] [P_z 3, P_z 2] _ _ from ?_)
  refine P_aw_icf P_i180_5 ⟨by decide, by decide⟩ ⟨by decide, by decide⟩ (P_ci_gef (by omega)) (show P_aw _ _ _ 8 [.ref (w.2.2 32), P_z 0, P_z 2] [] _ _ from ?_)
  refine P_aw_op (L' := [.ref (w.2.2 32), P_z 0, P_z 2]) (st' := [.ref (w.2.2 32)]) P_i180_8 rfl (show P_aw _ _ _ 9 [.ref (w.2.2 32), P_z 0, P_z 2] [.ref (w.2.2 32)] _ _ from ?_)
  refine P_aw_op (L' := [.ref (w.2.2 32), P_z 0, P_z 2]) (st' := [P_z 2, .ref (w.2.2 32)]) P_i180_9 rfl (show P_aw _ _ _ 10 [.ref (w.2.2 32), P_z 0, P_z 2] [P_z 2, .ref (w.2.2 32)] _ _ from ?_)
  refine P_aw_op (L' := [.ref (w.2.2 32), P_z 0, P_z 2]) (st' := [P_z 0, P_z 2, .ref (w.2.2 32)]) P_i180_10 rfl (show P_aw _ _ _ 11 [.ref (w.2.2 32), P_z 0, P_z 2] [P_z 0, P_z 2, .ref (w.2.2 32)] _ _ from ?_)
  refine P_aw_ast P_i180_11 (hw.2.1 32 (by decide)) (hw.s rfl) (by omega) (by omega) (by decide) (show P_aw _ _ _ 12 [.ref (w.2.2 32), P_z 0, P_z 2] [] _ _ from ?_)
  refine P_aw_op (L' := [.ref (w.2.2 32), P_z 0, P_z 3]) (st' := []) P_i180_12 (P_o_iincv (x := 2) rfl (by decide)) (show P_aw _ _ _ 15 [.ref (w.2.2 32), P_z 0, P_z 3] [] _ _ from ?_)
  refine P_aw_goto P_i180_15 (show P_aw _ _ _ 2 [.ref (w.2.2 32), P_z 0, P_z 3] [] _ _ from ?_)
  refine P_aw_op (L' := [.ref (w.2.2 32), P_z 0, P_z 3]) (st' := [P_z 3]) P_i180_2 rfl (show P_aw _ _ _ 3 [.ref (w.2.2 32), P_z 0, P_z 3] [P_z 3] _ _ from ?_)
  refine P_aw_op (L' := [.ref (w.2.2 32), P_z 0, P_z 3]) (st' := [.ref (w.2.2 32), P_z 3]) P_i180_3 rfl (show P_aw _ _ _ 4 [.ref (w.2.2 32), P_z 0, P_z 3] [.ref (w.2.2 32), P_z 3] _ _ from ?_)
  refine P_aw_alen P_i180_4 (hw.2.1 32 (by decide)) (hw.s rfl) (show P_aw _ _ _ 5 [.ref (w.2.2 32), P_z 0, P_z 3] [P_z 3, P_z 3] _ _ from ?_)
  refine P_aw_ict P_i180_5 ⟨by decide, by decide⟩ ⟨by decide, by decide⟩ (P_ci_get (by omega)) (show P_aw _ _ _ 18 [.ref (w.2.2 32), P_z 0, P_z 3] [] _ _ from ?_)
  refine P_aw_end P_i180_18 rfl rfl (fun _ => rfl) rfl ?_
  show P_aw _ _ _ 33 [.ref (w.2.2 31), P_z wo, P_z most] [] _ _
  refine P_aw_op (L' := [.ref (w.2.2 31), P_z wo, P_z most]) (st' := [.ref (w.2.2 31)]) P_i133_33 rfl (show P_aw _ _ _ 34 [.ref (w.2.2 31), P_z wo, P_z most] [.ref (w.2.2 31)] _ _ from ?_)
  refine P_aw_op (L' := [.ref (w.2.2 31), P_z wo, P_z most]) (st' := [P_z 0, .ref (w.2.2 31)]) P_i133_34 rfl (show P_aw _ _ _ 35 [.ref (w.2.2 31), P_z wo, P_z most] [P_z 0, .ref (w.2.2 31)] _ _ from ?_)
  have hW0 := A_Wt_0 (T := 31) (wo := wo) (most := most) (by omega) hA hX hK hO
  have hI0 : Inv 0 0 0 (A_w0 σ 31 wo most) := hIn _ (fun a b h h2 => A_w0_ne h h2)
  refine P_aw_call P_i133_35 rfl rfl (fun _ => rfl) rfl rfl rfl rfl (y2 := 134) (as := [.ref (w.2.2 31), P_z 0]) (r0 := []) (P_inv_v (hw.2.1 31 (by decide)) (hw.s rfl) rfl rfl) (Nat.le_of_ble_eq_true rfl) (by decide) rfl (Nat.le_of_ble_eq_true rfl) ?_
  have hnn : ns = 1 ∨ ns = 2 ∨ ns = 3 := by omega
  rcases hnn with h1 | h1 | h1
  · have e1 : ns.toNat = 1 := by omega
    refine P_aw_mono (s_go31_1 (d := d + 2) hw hwo1 hms hok htk hI hM ⟨Int.le_refl 0, by omega⟩ _ _ hW0 hI0 (Q := fun r s => r = .inl none ∧ ((∀ a b, ¬ (31 ≤ a ∧ a ≤ 39) → s a b = A_w0 σ 31 wo most a b) ∧ (∀ b, b = 15 ∨ b = 16 → s 31 b = A_w0 σ 31 wo most 31 b)) ∧ A_Wt w 31 s ns tb rw vr cl V cs wo od most (A_go most (fun p ρ => A_hl (A_val V rw ρ) p wo cs 0) od rw ns.toNat 0 (fun _ => 0, 0, 0, 0)) ∧ Inv (A_go most (fun p ρ => A_hl (A_val V rw ρ) p wo cs 0) od rw ns.toNat 0 (fun _ => 0, 0, 0, 0)).2.1 (A_go most (fun p ρ => A_hl (A_val V rw ρ) p wo cs 0) od rw ns.toNat 0 (fun _ => 0, 0, 0, 0)).2.2.1 (A_go most (fun p ρ => A_hl (A_val V rw ρ) p wo cs 0) od rw ns.toNat 0 (fun _ => 0, 0, 0, 0)).2.2.2 s) (fun s a1 a2 a3 a4 => ⟨rfl, ⟨a1, a2⟩, by rw [e1]; exact a3, by rw [e1]; exact a4⟩)) ?_
    rintro r s ⟨rfl, ⟨a1, a2⟩, a3, a4⟩
    show P_aw _ _ _ 38 [.ref (w.2.2 31), P_z wo, P_z most] [] _ _
    refine P_aw_end P_i133_38 rfl rfl (fun _ => rfl) rfl ?_
    exact q s (fun a b h => (a1 a b h).trans (A_w0_ne (by omega) (by omega))) (fun b h => (a2 b h).trans (A_w0_ne (by omega) (by omega))) a3 a4
  · have e1 : ns.toNat = 2 := by omega
    refine P_aw_mono (s_go31_2 (d := d + 1) hw hwo1 hms hok htk hI hM ⟨Int.le_refl 0, by omega⟩ _ _ hW0 hI0 (Q := fun r s => r = .inl none ∧ ((∀ a b, ¬ (31 ≤ a ∧ a ≤ 39) → s a b = A_w0 σ 31 wo most a b) ∧ (∀ b, b = 15 ∨ b = 16 → s 31 b = A_w0 σ 31 wo most 31 b)) ∧ A_Wt w 31 s ns tb rw vr cl V cs wo od most (A_go most (fun p ρ => A_hl (A_val V rw ρ) p wo cs 0) od rw ns.toNat 0 (fun _ => 0, 0, 0, 0)) ∧ Inv (A_go most (fun p ρ => A_hl (A_val V rw ρ) p wo cs 0) od rw ns.toNat 0 (fun _ => 0, 0, 0, 0)).2.1 (A_go most (fun p ρ => A_hl (A_val V rw ρ) p wo cs 0) od rw ns.toNat 0 (fun _ => 0, 0, 0, 0)).2.2.1 (A_go most (fun p ρ => A_hl (A_val V rw ρ) p wo cs 0) od rw ns.toNat 0 (fun _ => 0, 0, 0, 0)).2.2.2 s) (fun s a1 a2 a3 a4 => ⟨rfl, ⟨a1, a2⟩, by rw [e1]; exact a3, by rw [e1]; exact a4⟩)) ?_
    rintro r s ⟨rfl, ⟨a1, a2⟩, a3, a4⟩
    show P_aw _ _ _ 38 [.ref (w.2.2 31), P_z wo, P_z most] [] _ _
    refine P_aw_end P_i133_38 rfl rfl (fun _ => rfl) rfl ?_
    exact q s (fun a b h => (a1 a b h).trans (A_w0_ne (by omega) (by omega))) (fun b h => (a2 b h).trans (A_w0_ne (by omega) (by omega))) a3 a4
  · have e1 : ns.toNat = 3 := by omega
    refine P_aw_mono (s_go31_3 (d := d + 0) hw hwo1 hms hok htk hI hM ⟨Int.le_refl 0, by omega⟩ _ _ hW0 hI0 (Q := fun r s => r = .inl none ∧ ((∀ a b, ¬ (31 ≤ a ∧ a ≤ 39) → s a b = A_w0 σ 31 wo most a b) ∧ (∀ b, b = 15 ∨ b = 16 → s 31 b = A_w0 σ 31 wo most 31 b)) ∧ A_Wt w 31 s ns tb rw vr cl V cs wo od most (A_go most (fun p ρ => A_hl (A_val V rw ρ) p wo cs 0) od rw ns.toNat 0 (fun _ => 0, 0, 0, 0)) ∧ Inv (A_go most (fun p ρ => A_hl (A_val V rw ρ) p wo cs 0) od rw ns.toNat 0 (fun _ => 0, 0, 0, 0)).2.1 (A_go most (fun p ρ => A_hl (A_val V rw ρ) p wo cs 0) od rw ns.toNat 0 (fun _ => 0, 0, 0, 0)).2.2.1 (A_go most (fun p ρ => A_hl (A_val V rw ρ) p wo cs 0) od rw ns.toNat 0 (fun _ => 0, 0, 0, 0)).2.2.2 s) (fun s a1 a2 a3 a4 => ⟨rfl, ⟨a1, a2⟩, by rw [e1]; exact a3, by rw [e1]; exact a4⟩)) ?_
    rintro r s ⟨rfl, ⟨a1, a2⟩, a3, a4⟩
    show P_aw _ _ _ 38 [.ref (w.2.2 31), P_z wo, P_z most] [] _ _
    refine P_aw_end P_i133_38 rfl rfl (fun _ => rfl) rfl ?_
    exact q s (fun a b h => (a1 a b h).trans (A_w0_ne (by omega) (by omega))) (fun b h => (a2 b h).trans (A_w0_ne (by omega) (by omega))) a3 a4

theorem s_go42_1 {w : P_Lw} (hw : P_Cw w) {d : Nat} {Q : P_R → P_A → Prop} {ns : Int} {tb : Int → Nat} {rw : Int → Int} {vr : Int → Int → Int} {cl : Int → Int} {V : Int → Int → Int → Int} {cs : List A_cd} {wo : Int} {od : Int → Int} {most : Int} (hl42 : w.2.1 42 = true) (hl43 : w.2.1 43 = true) (hwo1 : -1 ≤ wo ∧ wo ≤ 12) (hms : 0 ≤ most ∧ most ≤ 1000000000) (hok : A_oks ns cs) (htk : A_tks ns cl cs) {Inv : Int → Int → Int → P_A → Prop} (hI : ∀ rd ck mt rd' ck' σ σ', Inv rd ck mt σ → rd ≤ rd' → ck ≤ ck' → A_cn 42 σ σ' → Inv rd' ck' mt σ') (hM : ∀ {d : Nat} {Q : P_R → P_A → Prop} (σ : P_A) (S : A_st), A_Wt w 42 σ ns tb rw vr cl V cs wo od most S → Inv S.2.1 S.2.2.1 (S.2.2.2 - 1) σ → (∀ σ', (∀ a b, σ' a b = σ a b) → Inv S.2.1 S.2.2.1 S.2.2.2 σ' → Q (.inl none) σ') → P_aw w (d + 6) 21 0 [.ref (w.2.2 42)] [] σ Q) {p : Int} (hp : 0 ≤ p ∧ p + 1 = ns) (σ : P_A) (S : A_st) (hW : A_Wt w 42 σ ns tb rw vr cl V cs wo od most S) (hI0 : Inv S.2.1 S.2.2.1 S.2.2.2 σ) (q : (∀ σ', (∀ a b, ¬ (42 ≤ a ∧ a ≤ 43) → σ' a b = σ a b) → (∀ b, b = 15 ∨ b = 16 → σ' 42 b = σ 42 b) → A_Wt w 42 σ' ns tb rw vr cl V cs wo od most (A_go most (fun p ρ => A_hl (A_val V rw ρ) p wo cs 0) od rw 1 p S) → Inv (A_go most (fun p ρ => A_hl (A_val V rw ρ) p wo cs 0) od rw 1 p S).2.1 (A_go most (fun p ρ => A_hl (A_val V rw ρ) p wo cs 0) od rw 1 p S).2.2.1 (A_go most (fun p ρ => A_hl (A_val V rw ρ) p wo cs 0) od rw 1 p S).2.2.2 σ' → Q (.inl none) σ')) : P_aw w (d + 7) 134 0 [.ref (w.2.2 42), P_z p, P_un, P_un, P_un] [] σ Q := by
  obtain ⟨hS, hO, hms4, hrd, hck, hmt, hmr⟩ := id hW
  obtain ⟨hA, hX, hK, hwo, hρ⟩ := id hS
  have hns := hA.2.1
  have hod := (hO p (by omega) (by omega)).2
  have hrw := (hA.2.2 (od p) (by omega) (by omega)).2.2.2.1
  refine P_aw_op (L' := [.ref (w.2.2 42), P_z p, P_un, P_un, P_un]) (st' := [P_z p]) P_i134_0 rfl (show P_aw _ _ _ 1 [.ref (w.2.2 42), P_z p, P_un, P_un, P_un] [P_z p] _ _ from ?_)
  refine P_aw_op (L' := [.ref (w.2.2 42), P_z p, P_un, P_un, P_un]) (st' := [.ref (w.2.2 42), P_z p]) P_i134_1 rfl (show P_aw _ _ _ 2 [.ref (w.2.2 42), P_z p, P_un, P_un, P_un] [.ref (w.2.2 42), P_z p] _ _ from ?_)
  refine P_aw_getR P_i134_2 hl42 (hw.s rfl) rfl rfl (show P_aw _ _ _ 5 [.ref (w.2.2 42), P_z p, P_un, P_un, P_un] [.ref (w.2.2 6), P_z p] _ _ from ?_)
  refine P_aw_call P_i134_5 rfl rfl (fun _ => rfl) rfl rfl rfl rfl (y2 := 30) (as := [.ref (w.2.2 6)]) (r0 := [P_z p]) (P_inv_v (hw.2.1 6 (by decide)) (hw.s rfl) rfl rfl) (Nat.le_of_ble_eq_true rfl) (by decide) rfl (Nat.le_of_ble_eq_true rfl) (show P_aw _ _ _ 0 [.ref (w.2.2 6)] [] _ _ from ?_)
  refine P_aw_op (L' := [.ref (w.2.2 6)]) (st' := [.ref (w.2.2 6)]) P_i30_0 rfl (show P_aw _ _ _ 1 [.ref (w.2.2 6)] [.ref (w.2.2 6)] _ _ from ?_)
  refine P_aw_getv P_i30_1 (hw.2.1 6 (by decide)) (hw.s rfl) rfl rfl (hA.1) (show P_aw _ _ _ 4 [.ref (w.2.2 6)] [P_z ns] _ _ from ?_)
  refine P_aw_end P_i30_4 rfl rfl (fun _ => rfl) rfl ?_
  show P_aw _ _ _ 8 [.ref (w.2.2 42), P_z p, P_un, P_un, P_un] [P_z ns, P_z p] _ _
  refine P_aw_icf P_i134_8 ⟨by omega, by omega⟩ ⟨by omega, by omega⟩ (P_ci_gef (by omega)) (show P_aw _ _ _ 11 [.ref (w.2.2 42), P_z p, P_un, P_un, P_un] [] _ _ from ?_)
  refine P_aw_op (L' := [.ref (w.2.2 42), P_z p, P_un, P_un, P_un]) (st' := [P_z p]) P_i134_11 rfl (show P_aw _ _ _ 12 [.ref (w.2.2 42), P_z p, P_un, P_un, P_un] [P_z p] _ _ from ?_)
  refine P_aw_op (L' := [.ref (w.2.2 42), P_z p, P_un, P_un, P_un]) (st' := [P_z 3, P_z p]) P_i134_12 rfl (show P_aw _ _ _ 13 [.ref (w.2.2 42), P_z p, P_un, P_un, P_un] [P_z 3, P_z p] _ _ from ?_)
  refine P_aw_ict P_i134_13 ⟨by omega, by omega⟩ ⟨by decide, by decide⟩ (P_ci_ltt (by omega)) (show P_aw _ _ _ 17 [.ref (w.2.2 42), P_z p, P_un, P_un, P_un] [] _ _ from ?_)
  refine P_aw_op (L' := [.ref (w.2.2 42), P_z p, P_un, P_un, P_un]) (st' := [.ref (w.2.2 42)]) P_i134_17 rfl (show P_aw _ _ _ 18 [.ref (w.2.2 42), P_z p, P_un, P_un, P_un] [.ref (w.2.2 42)] _ _ from ?_)
  refine P_aw_getR P_i134_18 hl42 (hw.s rfl) rfl rfl (show P_aw _ _ _ 21 [.ref (w.2.2 42), P_z p, P_un, P_un, P_un] [.ref (w.2.2 13)] _ _ from ?_)
  refine P_aw_op (L' := [.ref (w.2.2 42), P_z p, P_un, P_un, P_un]) (st' := [P_z p, .ref (w.2.2 13)]) P_i134_21 rfl (show P_aw _ _ _ 22 [.ref (w.2.2 42), P_z p, P_un, P_un, P_un] [P_z p, .ref (w.2.2 13)] _ _ from ?_)
  refine P_aw_call P_i134_22 rfl rfl (fun _ => rfl) rfl rfl rfl rfl (y2 := 58) (as := [.ref (w.2.2 13), P_z p]) (r0 := []) (P_inv_v (hw.2.1 13 (by decide)) (hw.s rfl) rfl rfl) (Nat.le_of_ble_eq_true rfl) (by decide) rfl (Nat.le_of_ble_eq_true rfl) (show P_aw _ _ _ 0 [.ref (w.2.2 13), P_z p] [] _ _ from ?_)
  refine P_aw_op (L' := [.ref (w.2.2 13), P_z p]) (st' := [.ref (w.2.2 13)]) P_i58_0 rfl (show P_aw _ _ _ 1 [.ref (w.2.2 13), P_z p] [.ref (w.2.2 13)] _ _ from ?_)
  refine P_aw_getR P_i58_1 (hw.2.1 13 (by decide)) (hw.s rfl) rfl rfl (show P_aw _ _ _ 4 [.ref (w.2.2 13), P_z p] [.ref (w.2.2 28)] _ _ from ?_)
  refine P_aw_op (L' := [.ref (w.2.2 13), P_z p]) (st' := [P_z p, .ref (w.2.2 28)]) P_i58_4 rfl (show P_aw _ _ _ 5 [.ref (w.2.2 13), P_z p] [P_z p, .ref (w.2.2 28)] _ _ from ?_)
  refine P_aw_call P_i58_5 rfl rfl (fun _ => rfl) rfl rfl rfl rfl (y2 := 178) (as := [.ref (w.2.2 28), P_z p]) (r0 := []) (fun _ _ => rfl) (Nat.le_of_ble_eq_true rfl) (by decide) rfl (Nat.le_of_ble_eq_true rfl) (show P_aw _ _ _ 0 [.ref (w.2.2 28), P_z p] [] _ _ from ?_)
  refine P_aw_op (L' := [.ref (w.2.2 28), P_z p]) (st' := [P_z p]) P_i178_0 rfl (show P_aw _ _ _ 1 [.ref (w.2.2 28), P_z p] [P_z p] _ _ from ?_)
  refine P_aw_izf P_i178_1 ⟨by omega, by omega⟩ (P_ci_ltf (by omega)) (show P_aw _ _ _ 4 [.ref (w.2.2 28), P_z p] [] _ _ from ?_)
  refine P_aw_op (L' := [.ref (w.2.2 28), P_z p]) (st' := [P_z p]) P_i178_4 rfl (show P_aw _ _ _ 5 [.ref (w.2.2 28), P_z p] [P_z p] _ _ from ?_)
  refine P_aw_op (L' := [.ref (w.2.2 28), P_z p]) (st' := [.ref (w.2.2 28), P_z p]) P_i178_5 rfl (show P_aw _ _ _ 6 [.ref (w.2.2 28), P_z p] [.ref (w.2.2 28), P_z p] _ _ from ?_)
  refine P_aw_alen P_i178_6 (hw.2.1 28 (by decide)) (hw.s rfl) (show P_aw _ _ _ 7 [.ref (w.2.2 28), P_z p] [P_z 3, P_z p] _ _ from ?_)
  refine P_aw_icf P_i178_7 ⟨by omega, by omega⟩ ⟨by decide, by decide⟩ (P_ci_gef (by omega)) (show P_aw _ _ _ 10 [.ref (w.2.2 28), P_z p] [] _ _ from ?_)
  refine P_aw_op (L' := [.ref (w.2.2 28), P_z p]) (st' := [.ref (w.2.2 28)]) P_i178_10 rfl (show P_aw _ _ _ 11 [.ref (w.2.2 28), P_z p] [.ref (w.2.2 28)] _ _ from ?_)
  refine P_aw_op (L' := [.ref (w.2.2 28), P_z p]) (st' := [P_z p, .ref (w.2.2 28)]) P_i178_11 rfl (show P_aw _ _ _ 12 [.ref (w.2.2 28), P_z p] [P_z p, .ref (w.2.2 28)] _ _ from ?_)
  have hg1 := (hO p (by omega) (by omega)).2
  refine P_aw_aldv P_i178_12 (hw.2.1 28 (by decide)) (hw.s rfl) (by omega) (by omega) (by decide) ((hO p (by omega) (by omega)).1) (show P_aw _ _ _ 13 [.ref (w.2.2 28), P_z p] [P_z (od p)] _ _ from ?_)
  refine P_aw_goto P_i178_13 (show P_aw _ _ _ 17 [.ref (w.2.2 28), P_z p] [P_z (od p)] _ _ from ?_)
  refine P_aw_end P_i178_17 rfl rfl (fun _ => rfl) rfl ?_
  show P_aw _ _ _ 8 [.ref (w.2.2 13), P_z p] [P_z (od p)] _ _
  refine P_aw_end P_i58_8 rfl rfl (fun _ => rfl) rfl ?_
  show P_aw _ _ _ 25 [.ref (w.2.2 42), P_z p, P_un, P_un, P_un] [P_z (od p)] _ _
  refine P_aw_op (L' := [.ref (w.2.2 42), P_z p, P_z (od p), P_un, P_un]) (st' := []) P_i134_25 rfl (show P_aw _ _ _ 26 [.ref (w.2.2 42), P_z p, P_z (od p), P_un, P_un] [] _ _ from ?_)
  refine P_aw_op (L' := [.ref (w.2.2 42), P_z p, P_z (od p), P_un, P_un]) (st' := [.ref (w.2.2 42)]) P_i134_26 rfl (show P_aw _ _ _ 27 [.ref (w.2.2 42), P_z p, P_z (od p), P_un, P_un] [.ref (w.2.2 42)] _ _ from ?_)
  refine P_aw_getR P_i134_27 hl42 (hw.s rfl) rfl rfl (show P_aw _ _ _ 30 [.ref (w.2.2 42), P_z p, P_z (od p), P_un, P_un] [.ref (w.2.2 6)] _ _ from ?_)
  refine P_aw_op (L' := [.ref (w.2.2 42), P_z p, P_z (od p), P_un, P_un]) (st' := [P_z (od p), .ref (w.2.2 6)]) P_i134_30 rfl (show P_aw _ _ _ 31 [.ref (w.2.2 42), P_z p, P_z (od p), P_un, P_un] [P_z (od p), .ref (w.2.2 6)] _ _ from ?_)
  refine P_aw_call P_i134_31 rfl rfl (fun _ => rfl) rfl rfl rfl rfl (y2 := 38) (as := [.ref (w.2.2 6), P_z (od p)]) (r0 := []) (P_inv_v (hw.2.1 6 (by decide)) (hw.s rfl) rfl rfl) (Nat.le_of_ble_eq_true rfl) (by decide) rfl (Nat.le_of_ble_eq_true rfl) (show P_aw _ _ _ 0 [.ref (w.2.2 6), P_z (od p), P_un] [] _ _ from ?_)
  refine P_aw_op (L' := [.ref (w.2.2 6), P_z (od p), P_un]) (st' := [P_z (od p)]) P_i38_0 rfl (show P_aw _ _ _ 1 [.ref (w.2.2 6), P_z (od p), P_un] [P_z (od p)] _ _ from ?_)
  refine P_aw_izf P_i38_1 ⟨by omega, by omega⟩ (P_ci_ltf (by omega)) (show P_aw _ _ _ 4 [.ref (w.2.2 6), P_z (od p), P_un] [] _ _ from ?_)
  refine P_aw_op (L' := [.ref (w.2.2 6), P_z (od p), P_un]) (st' := [P_z (od p)]) P_i38_4 rfl (show P_aw _ _ _ 5 [.ref (w.2.2 6), P_z (od p), P_un] [P_z (od p)] _ _ from ?_)
  refine P_aw_op (L' := [.ref (w.2.2 6), P_z (od p), P_un]) (st' := [.ref (w.2.2 6), P_z (od p)]) P_i38_5 rfl (show P_aw _ _ _ 6 [.ref (w.2.2 6), P_z (od p), P_un] [.ref (w.2.2 6), P_z (od p)] _ _ from ?_)
  refine P_aw_getv P_i38_6 (hw.2.1 6 (by decide)) (hw.s rfl) rfl rfl (hA.1) (show P_aw _ _ _ 9 [.ref (w.2.2 6), P_z (od p), P_un] [P_z ns, P_z (od p)] _ _ from ?_)
  refine P_aw_icf P_i38_9 ⟨by omega, by omega⟩ ⟨by omega, by omega⟩ (P_ci_gef (by omega)) (show P_aw _ _ _ 12 [.ref (w.2.2 6), P_z (od p), P_un] [] _ _ from ?_)
  refine P_aw_op (L' := [.ref (w.2.2 6), P_z (od p), P_un]) (st' := [P_z (od p)]) P_i38_12 rfl (show P_aw _ _ _ 13 [.ref (w.2.2 6), P_z (od p), P_un] [P_z (od p)] _ _ from ?_)
  refine P_aw_op (L' := [.ref (w.2.2 6), P_z (od p), P_un]) (st' := [.ref (w.2.2 6), P_z (od p)]) P_i38_13 rfl (show P_aw _ _ _ 14 [.ref (w.2.2 6), P_z (od p), P_un] [.ref (w.2.2 6), P_z (od p)] _ _ from ?_)
  refine P_aw_getR P_i38_14 (hw.2.1 6 (by decide)) (hw.s rfl) rfl rfl (show P_aw _ _ _ 17 [.ref (w.2.2 6), P_z (od p), P_un] [.ref (w.2.2 9), P_z (od p)] _ _ from ?_)
  refine P_aw_rlen P_i38_17 (hw.2.1 9 (by decide)) (hw.s rfl) (show P_aw _ _ _ 18 [.ref (w.2.2 6), P_z (od p), P_un] [P_z 3, P_z (od p)] _ _ from ?_)
  refine P_aw_ict P_i38_18 ⟨by omega, by omega⟩ ⟨by decide, by decide⟩ (P_ci_ltt (by omega)) (show P_aw _ _ _ 26 [.ref (w.2.2 6), P_z (od p), P_un] [] _ _ from ?_)
  refine P_aw_op (L' := [.ref (w.2.2 6), P_z (od p), P_un]) (st' := [.ref (w.2.2 6)]) P_i38_26 rfl (show P_aw _ _ _ 27 [.ref (w.2.2 6), P_z (od p), P_un] [.ref (w.2.2 6)] _ _ from ?_)
  refine P_aw_getR P_i38_27 (hw.2.1 6 (by decide)) (hw.s rfl) rfl rfl (show P_aw _ _ _ 30 [.ref (w.2.2 6), P_z (od p), P_un] [.ref (w.2.2 9)] _ _ from ?_)
  refine P_aw_op (L' := [.ref (w.2.2 6), P_z (od p), P_un]) (st' := [P_z (od p), .ref (w.2.2 9)]) P_i38_30 rfl (show P_aw _ _ _ 31 [.ref (w.2.2 6), P_z (od p), P_un] [P_z (od p), .ref (w.2.2 9)] _ _ from ?_)
  have hg2 := (hA.2.2 (od p) (by omega) (by omega)).2.1.1
  refine P_aw_rldv P_i38_31 (hw.2.1 9 (by decide)) (hw.s rfl) (by decide) (by omega) (by omega) (by decide) ((hA.2.2 (od p) (by omega) (by omega)).1) (by omega) (show P_aw _ _ _ 32 [.ref (w.2.2 6), P_z (od p), P_un] [.ref (w.2.2 (tb (od p)))] _ _ from ?_)
  refine P_aw_op (L' := [.ref (w.2.2 6), P_z (od p), .ref (w.2.2 (tb (od p)))]) (st' := []) P_i38_32 rfl (show P_aw _ _ _ 33 [.ref (w.2.2 6), P_z (od p), .ref (w.2.2 (tb (od p)))] [] _ _ from ?_)
  refine P_aw_op (L' := [.ref (w.2.2 6), P_z (od p), .ref (w.2.2 (tb (od p)))]) (st' := [.ref (w.2.2 (tb (od p)))]) P_i38_33 rfl (show P_aw _ _ _ 34 [.ref (w.2.2 6), P_z (od p), .ref (w.2.2 (tb (od p)))] [.ref (w.2.2 (tb (od p)))] _ _ from ?_)
  refine P_aw_brt P_i38_34 rfl (show P_aw _ _ _ 44 [.ref (w.2.2 6), P_z (od p), .ref (w.2.2 (tb (od p)))] [] _ _ from ?_)
  refine P_aw_op (L' := [.ref (w.2.2 6), P_z (od p), .ref (w.2.2 (tb (od p)))]) (st' := [.ref (w.2.2 (tb (od p)))]) P_i38_44 rfl (show P_aw _ _ _ 45 [.ref (w.2.2 6), P_z (od p), .ref (w.2.2 (tb (od p)))] [.ref (w.2.2 (tb (od p)))] _ _ from ?_)
  refine P_aw_end P_i38_45 rfl rfl (fun _ => rfl) rfl ?_
  show P_aw _ _ _ 34 [.ref (w.2.2 42), P_z p, P_z (od p), P_un, P_un] [.ref (w.2.2 (tb (od p)))] _ _
  refine P_aw_call P_i134_34 rfl rfl (fun _ => rfl) rfl rfl rfl rfl (y2 := 120) (as := [.ref (w.2.2 (tb (od p)))]) (r0 := []) (P_inv_v (hA.2.2 (od p) (by omega) (by omega)).2.1.2.1.2 (hA.2.2 (od p) (by omega) (by omega)).2.1.2.1.1 rfl rfl) (Nat.le_of_ble_eq_true rfl) (by decide) rfl (Nat.le_of_ble_eq_true rfl) (show P_aw _ _ _ 0 [.ref (w.2.2 (tb (od p)))] [] _ _ from ?_)
  refine P_aw_op (L' := [.ref (w.2.2 (tb (od p)))]) (st' := [.ref (w.2.2 (tb (od p)))]) P_i120_0 rfl (show P_aw _ _ _ 1 [.ref (w.2.2 (tb (od p)))] [.ref (w.2.2 (tb (od p)))] _ _ from ?_)
  have hg3 := (hA.2.2 (od p) (by omega) (by omega)).2.2.2.1
  refine P_aw_getv P_i120_1 (hA.2.2 (od p) (by omega) (by omega)).2.1.2.1.2 (hA.2.2 (od p) (by omega) (by omega)).2.1.2.1.1 rfl rfl ((hA.2.2 (od p) (by omega) (by omega)).2.2.1) (show P_aw _ _ _ 4 [.ref (w.2.2 (tb (od p)))] [P_z (rw (od p))] _ _ from ?_)
  refine P_aw_end P_i120_4 rfl rfl (fun _ => rfl) rfl ?_
  show P_aw _ _ _ 37 [.ref (w.2.2 42), P_z p, P_z (od p), P_un, P_un] [P_z (rw (od p))] _ _
  refine P_aw_op (L' := [.ref (w.2.2 42), P_z p, P_z (od p), P_z (rw (od p)), P_un]) (st' := []) P_i134_37 rfl (show P_aw _ _ _ 38 [.ref (w.2.2 42), P_z p, P_z (od p), P_z (rw (od p)), P_un] [] _ _ from ?_)
  refine P_aw_op (L' := [.ref (w.2.2 42), P_z p, P_z (od p), P_z (rw (od p)), P_un]) (st' := [P_z 0]) P_i134_38 rfl (show P_aw _ _ _ 39 [.ref (w.2.2 42), P_z p, P_z (od p), P_z (rw (od p)), P_un] [P_z 0] _ _ from ?_)
  refine P_aw_op (L' := [.ref (w.2.2 42), P_z p, P_z (od p), P_z (rw (od p)), P_z 0]) (st' := []) P_i134_39 rfl (show P_aw _ _ _ 41 [.ref (w.2.2 42), P_z p, P_z (od p), P_z (rw (od p)), P_z 0] [] _ _ from ?_)
  exact s_gl42 hw hl42 hl43 hwo1 hms hok htk hI ⟨by omega, by omega⟩ hM (rw (od p)).toNat σ 0 S hW hI0 (by omega) (by omega) (by omega) q

theorem s_go42_2 {w : P_Lw} (hw : P_Cw w) {d : Nat} {Q : P_R → P_A → Prop} {ns : Int} {tb : Int → Nat} {rw : Int → Int} {vr : Int → Int → Int} {cl : Int → Int} {V : Int → Int → Int → Int} {cs : List A_cd} {wo : Int} {od : Int → Int} {most : Int} (hl42 : w.2.1 42 = true) (hl43 : w.2.1 43 = true) (hwo1 : -1 ≤ wo ∧ wo ≤ 12) (hms : 0 ≤ most ∧ most ≤ 1000000000) (hok : A_oks ns cs) (htk : A_tks ns cl cs) {Inv : Int → Int → Int → P_A → Prop} (hI : ∀ rd ck mt rd' ck' σ σ', Inv rd ck mt σ → rd ≤ rd' → ck ≤ ck' → A_cn 42 σ σ' → Inv rd' ck' mt σ') (hM : ∀ {d : Nat} {Q : P_R → P_A → Prop} (σ : P_A) (S : A_st), A_Wt w 42 σ ns tb rw vr cl V cs wo od most S → Inv S.2.1 S.2.2.1 (S.2.2.2 - 1) σ → (∀ σ', (∀ a b, σ' a b = σ a b) → Inv S.2.1 S.2.2.1 S.2.2.2 σ' → Q (.inl none) σ') → P_aw w (d + 6) 21 0 [.ref (w.2.2 42)] [] σ Q) {p : Int} (hp : 0 ≤ p ∧ p + 2 = ns) (σ : P_A) (S : A_st) (hW : A_Wt w 42 σ ns tb rw vr cl V cs wo od most S) (hI0 : Inv S.2.1 S.2.2.1 S.2.2.2 σ) (q : (∀ σ', (∀ a b, ¬ (42 ≤ a ∧ a ≤ 43) → σ' a b = σ a b) → (∀ b, b = 15 ∨ b = 16 → σ' 42 b = σ 42 b) → A_Wt w 42 σ' ns tb rw vr cl V cs wo od most (A_go most (fun p ρ => A_hl (A_val V rw ρ) p wo cs 0) od rw 2 p S) → Inv (A_go most (fun p ρ => A_hl (A_val V rw ρ) p wo cs 0) od rw 2 p S).2.1 (A_go most (fun p ρ => A_hl (A_val V rw ρ) p wo cs 0) od rw 2 p S).2.2.1 (A_go most (fun p ρ => A_hl (A_val V rw ρ) p wo cs 0) od rw 2 p S).2.2.2 σ' → Q (.inl none) σ')) : P_aw w (d + 8) 134 0 [.ref (w.2.2 42), P_z p, P_un, P_un, P_un] [] σ Q := by
  obtain ⟨hS, hO, hms4, hrd, hck, hmt, hmr⟩ := id hW
  obtain ⟨hA, hX, hK, hwo, hρ⟩ := id hS
  have hns := hA.2.1
  have hod := (hO p (by omega) (by omega)).2
  have hrw := (hA.2.2 (od p) (by omega) (by omega)).2.2.2.1
  refine P_aw_op (L' := [.ref (w.2.2 42), P_z p, P_un, P_un, P_un]) (st' := [P_z p]) P_i134_0 rfl (show P_aw _ _ _ 1 [.ref (w.2.2 42), P_z p, P_un, P_un, P_un] [P_z p] _ _ from ?_)
  refine P_aw_op (L' := [.ref (w.2.2 42), P_z p, P_un, P_un, P_un]) (st' := [.ref (w.2.2 42), P_z p]) P_i134_1 rfl (show P_aw _ _ _ 2 [.ref (w.2.2 42), P_z p, P_un, P_un, P_un] [.ref (w.2.2 42), P_z p] _ _ from ?_)
  refine P_aw_getR P_i134_2 hl42 (hw.s rfl) rfl rfl (show P_aw _ _ _ 5 [.ref (w.2.2 42), P_z p, P_un, P_un, P_un] [.ref (w.2.2 6), P_z p] _ _ from ?_)
  refine P_aw_call P_i134_5 rfl rfl (fun _ => rfl) rfl rfl rfl rfl (y2 := 30) (as := [.ref (w.2.2 6)]) (r0 := [P_z p]) (P_inv_v (hw.2.1 6 (by decide)) (hw.s rfl) rfl rfl) (Nat.le_of_ble_eq_true rfl) (by decide) rfl (Nat.le_of_ble_eq_true rfl) (show P_aw _ _ _ 0 [.ref (w.2.2 6)] [] _ _ from ?_)
  refine P_aw_op (L' := [.ref (w.2.2 6)]) (st' := [.ref (w.2.2 6)]) P_i30_0 rfl (show P_aw _ _ _ 1 [.ref (w.2.2 6)] [.ref (w.2.2 6)] _ _ from ?_)
  refine P_aw_getv P_i30_1 (hw.2.1 6 (by decide)) (hw.s rfl) rfl rfl (hA.1) (show P_aw _ _ _ 4 [.ref (w.2.2 6)] [P_z ns] _ _ from ?_)
  refine P_aw_end P_i30_4 rfl rfl (fun _ => rfl) rfl ?_
  show P_aw _ _ _ 8 [.ref (w.2.2 42), P_z p, P_un, P_un, P_un] [P_z ns, P_z p] _ _
  refine P_aw_icf P_i134_8 ⟨by omega, by omega⟩ ⟨by omega, by omega⟩ (P_ci_gef (by omega)) (show P_aw _ _ _ 11 [.ref (w.2.2 42), P_z p, P_un, P_un, P_un] [] _ _ from ?_)
  refine P_aw_op (L' := [.ref (w.2.2 42), P_z p, P_un, P_un, P_un]) (st' := [P_z p]) P_i134_11 rfl (show P_aw _ _ _ 12 [.ref (w.2.2 42), P_z p, P_un, P_un, P_un] [P_z p] _ _ from ?_)
  refine P_aw_op (L' := [.ref (w.2.2 42), P_z p, P_un, P_un, P_un]) (st' := [P_z 3, P_z p]) P_i134_12 rfl (show P_aw _ _ _ 13 [.ref (w.2.2 42), P_z p, P_un, P_un, P_un] [P_z 3, P_z p] _ _ from ?_)
  refine P_aw_ict P_i134_13 ⟨by omega, by omega⟩ ⟨by decide, by decide⟩ (P_ci_ltt (by omega)) (show P_aw _ _ _ 17 [.ref (w.2.2 42), P_z p, P_un, P_un, P_un] [] _ _ from ?_)
  refine P_aw_op (L' := [.ref (w.2.2 42), P_z p, P_un, P_un, P_un]) (st' := [.ref (w.2.2 42)]) P_i134_17 rfl (show P_aw _ _ _ 18 [.ref (w.2.2 42), P_z p, P_un, P_un, P_un] [.ref (w.2.2 42)] _ _ from ?_)
  refine P_aw_getR P_i134_18 hl42 (hw.s rfl) rfl rfl (show P_aw _ _ _ 21 [.ref (w.2.2 42), P_z p, P_un, P_un, P_un] [.ref (w.2.2 13)] _ _ from ?_)
  refine P_aw_op (L' := [.ref (w.2.2 42), P_z p, P_un, P_un, P_un]) (st' := [P_z p, .ref (w.2.2 13)]) P_i134_21 rfl (show P_aw _ _ _ 22 [.ref (w.2.2 42), P_z p, P_un, P_un, P_un] [P_z p, .ref (w.2.2 13)] _ _ from ?_)
  refine P_aw_call P_i134_22 rfl rfl (fun _ => rfl) rfl rfl rfl rfl (y2 := 58) (as := [.ref (w.2.2 13), P_z p]) (r0 := []) (P_inv_v (hw.2.1 13 (by decide)) (hw.s rfl) rfl rfl) (Nat.le_of_ble_eq_true rfl) (by decide) rfl (Nat.le_of_ble_eq_true rfl) (show P_aw _ _ _ 0 [.ref (w.2.2 13), P_z p] [] _ _ from ?_)
  refine P_aw_op (L' := [.ref (w.2.2 13), P_z p]) (st' := [.ref (w.2.2 13)]) P_i58_0 rfl (show P_aw _ _ _ 1 [.ref (w.2.2 13), P_z p] [.ref (w.2.2 13)] _ _ from ?_)
  refine P_aw_getR P_i58_1 (hw.2.1 13 (by decide)) (hw.s rfl) rfl rfl (show P_aw _ _ _ 4 [.ref (w.2.2 13), P_z p] [.ref (w.2.2 28)] _ _ from ?_)
  refine P_aw_op (L' := [.ref (w.2.2 13), P_z p]) (st' := [P_z p, .ref (w.2.2 28)]) P_i58_4 rfl (show P_aw _ _ _ 5 [.ref (w.2.2 13), P_z p] [P_z p, .ref (w.2.2 28)] _ _ from ?_)
  refine P_aw_call P_i58_5 rfl rfl (fun _ => rfl) rfl rfl rfl rfl (y2 := 178) (as := [.ref (w.2.2 28), P_z p]) (r0 := []) (fun _ _ => rfl) (Nat.le_of_ble_eq_true rfl) (by decide) rfl (Nat.le_of_ble_eq_true rfl) (show P_aw _ _ _ 0 [.ref (w.2.2 28), P_z p] [] _ _ from ?_)
  refine P_aw_op (L' := [.ref (w.2.2 28), P_z p]) (st' := [P_z p]) P_i178_0 rfl (show P_aw _ _ _ 1 [.ref (w.2.2 28), P_z p] [P_z p] _ _ from ?_)
  refine P_aw_izf P_i178_1 ⟨by omega, by omega⟩ (P_ci_ltf (by omega)) (show P_aw _ _ _ 4 [.ref (w.2.2 28), P_z p] [] _ _ from ?_)
  refine P_aw_op (L' := [.ref (w.2.2 28), P_z p]) (st' := [P_z p]) P_i178_4 rfl (show P_aw _ _ _ 5 [.ref (w.2.2 28), P_z p] [P_z p] _ _ from ?_)
  refine P_aw_op (L' := [.ref (w.2.2 28), P_z p]) (st' := [.ref (w.2.2 28), P_z p]) P_i178_5 rfl (show P_aw _ _ _ 6 [.ref (w.2.2 28), P_z p] [.ref (w.2.2 28), P_z p] _ _ from ?_)
  refine P_aw_alen P_i178_6 (hw.2.1 28 (by decide)) (hw.s rfl) (show P_aw _ _ _ 7 [.ref (w.2.2 28), P_z p] [P_z 3, P_z p] _ _ from ?_)
  refine P_aw_icf P_i178_7 ⟨by omega, by omega⟩ ⟨by decide, by decide⟩ (P_ci_gef (by omega)) (show P_aw _ _ _ 10 [.ref (w.2.2 28), P_z p] [] _ _ from ?_)
  refine P_aw_op (L' := [.ref (w.2.2 28), P_z p]) (st' := [.ref (w.2.2 28)]) P_i178_10 rfl (show P_aw _ _ _ 11 [.ref (w.2.2 28), P_z p] [.ref (w.2.2 28)] _ _ from ?_)
  refine P_aw_op (L' := [.ref (w.2.2 28), P_z p]) (st' := [P_z p, .ref (w.2.2 28)]) P_i178_11 rfl (show P_aw _ _ _ 12 [.ref (w.2.2 28), P_z p] [P_z p, .ref (w.2.2 28)] _ _ from ?_)
  have hg1 := (hO p (by omega) (by omega)).2
  refine P_aw_aldv P_i178_12 (hw.2.1 28 (by decide)) (hw.s rfl) (by omega) (by omega) (by decide) ((hO p (by omega) (by omega)).1) (show P_aw _ _ _ 13 [.ref (w.2.2 28), P_z p] [P_z (od p)] _ _ from ?_)
  refine P_aw_goto P_i178_13 (show P_aw _ _ _ 17 [.ref (w.2.2 28), P_z p] [P_z (od p)] _ _ from ?_)
  refine P_aw_end P_i178_17 rfl rfl (fun _ => rfl) rfl ?_
  show P_aw _ _ _ 8 [.ref (w.2.2 13), P_z p] [P_z (od p)] _ _
  refine P_aw_end P_i58_8 rfl rfl (fun _ => rfl) rfl ?_
  show P_aw _ _ _ 25 [.ref (w.2.2 42), P_z p, P_un, P_un, P_un] [P_z (od p)] _ _
  refine P_aw_op (L' := [.ref (w.2.2 42), P_z p, P_z (od p), P_un, P_un]) (st' := []) P_i134_25 rfl (show P_aw _ _ _ 26 [.ref (w.2.2 42), P_z p, P_z (od p), P_un, P_un] [] _ _ from ?_)
  refine P_aw_op (L' := [.ref (w.2.2 42), P_z p, P_z (od p), P_un, P_un]) (st' := [.ref (w.2.2 42)]) P_i134_26 rfl (show P_aw _ _ _ 27 [.ref (w.2.2 42), P_z p, P_z (od p), P_un, P_un] [.ref (w.2.2 42)] _ _ from ?_)
  refine P_aw_getR P_i134_27 hl42 (hw.s rfl) rfl rfl (show P_aw _ _ _ 30 [.ref (w.2.2 42), P_z p, P_z (od p), P_un, P_un] [.ref (w.2.2 6)] _ _ from ?_)
  refine P_aw_op (L' := [.ref (w.2.2 42), P_z p, P_z (od p), P_un, P_un]) (st' := [P_z (od p), .ref (w.2.2 6)]) P_i134_30 rfl (show P_aw _ _ _ 31 [.ref (w.2.2 42), P_z p, P_z (od p), P_un, P_un] [P_z (od p), .ref (w.2.2 6)] _ _ from ?_)
  refine P_aw_call P_i134_31 rfl rfl (fun _ => rfl) rfl rfl rfl rfl (y2 := 38) (as := [.ref (w.2.2 6), P_z (od p)]) (r0 := []) (P_inv_v (hw.2.1 6 (by decide)) (hw.s rfl) rfl rfl) (Nat.le_of_ble_eq_true rfl) (by decide) rfl (Nat.le_of_ble_eq_true rfl) (show P_aw _ _ _ 0 [.ref (w.2.2 6), P_z (od p), P_un] [] _ _ from ?_)
  refine P_aw_op (L' := [.ref (w.2.2 6), P_z (od p), P_un]) (st' := [P_z (od p)]) P_i38_0 rfl (show P_aw _ _ _ 1 [.ref (w.2.2 6), P_z (od p), P_un] [P_z (od p)] _ _ from ?_)
  refine P_aw_izf P_i38_1 ⟨by omega, by omega⟩ (P_ci_ltf (by omega)) (show P_aw _ _ _ 4 [.ref (w.2.2 6), P_z (od p), P_un] [] _ _ from ?_)
  refine P_aw_op (L' := [.ref (w.2.2 6), P_z (od p), P_un]) (st' := [P_z (od p)]) P_i38_4 rfl (show P_aw _ _ _ 5 [.ref (w.2.2 6), P_z (od p), P_un] [P_z (od p)] _ _ from ?_)
  refine P_aw_op (L' := [.ref (w.2.2 6), P_z (od p), P_un]) (st' := [.ref (w.2.2 6), P_z (od p)]) P_i38_5 rfl (show P_aw _ _ _ 6 [.ref (w.2.2 6), P_z (od p), P_un] [.ref (w.2.2 6), P_z (od p)] _ _ from ?_)
  refine P_aw_getv P_i38_6 (hw.2.1 6 (by decide)) (hw.s rfl) rfl rfl (hA.1) (show P_aw _ _ _ 9 [.ref (w.2.2 6), P_z (od p), P_un] [P_z ns, P_z (od p)] _ _ from ?_)
  refine P_aw_icf P_i38_9 ⟨by omega, by omega⟩ ⟨by omega, by omega⟩ (P_ci_gef (by omega)) (show P_aw _ _ _ 12 [.ref (w.2.2 6), P_z (od p), P_un] [] _ _ from ?_)
  refine P_aw_op (L' := [.ref (w.2.2 6), P_z (od p), P_un]) (st' := [P_z (od p)]) P_i38_12 rfl (show P_aw _ _ _ 13 [.ref (w.2.2 6), P_z (od p), P_un] [P_z (od p)] _ _ from ?_)
  refine P_aw_op (L' := [.ref (w.2.2 6), P_z (od p), P_un]) (st' := [.ref (w.2.2 6), P_z (od p)]) P_i38_13 rfl (show P_aw _ _ _ 14 [.ref (w.2.2 6), P_z (od p), P_un] [.ref (w.2.2 6), P_z (od p)] _ _ from ?_)
  refine P_aw_getR P_i38_14 (hw.2.1 6 (by decide)) (hw.s rfl) rfl rfl (show P_aw _ _ _ 17 [.ref (w.2.2 6), P_z (od p), P_un] [.ref (w.2.2 9), P_z (od p)] _ _ from ?_)
  refine P_aw_rlen P_i38_17 (hw.2.1 9 (by decide)) (hw.s rfl) (show P_aw _ _ _ 18 [.ref (w.2.2 6), P_z (od p), P_un] [P_z 3, P_z (od p)] _ _ from ?_)
  refine P_aw_ict P_i38_18 ⟨by omega, by omega⟩ ⟨by decide, by decide⟩ (P_ci_ltt (by omega)) (show P_aw _ _ _ 26 [.ref (w.2.2 6), P_z (od p), P_un] [] _ _ from ?_)
  refine P_aw_op (L' := [.ref (w.2.2 6), P_z (od p), P_un]) (st' := [.ref (w.2.2 6)]) P_i38_26 rfl (show P_aw _ _ _ 27 [.ref (w.2.2 6), P_z (od p), P_un] [.ref (w.2.2 6)] _ _ from ?_)
  refine P_aw_getR P_i38_27 (hw.2.1 6 (by decide)) (hw.s rfl) rfl rfl (show P_aw _ _ _ 30 [.ref (w.2.2 6), P_z (od p), P_un] [.ref (w.2.2 9)] _ _ from ?_)
  refine P_aw_op (L' := [.ref (w.2.2 6), P_z (od p), P_un]) (st' := [P_z (od p), .ref (w.2.2 9)]) P_i38_30 rfl (show P_aw _ _ _ 31 [.ref (w.2.2 6), P_z (od p), P_un] [P_z (od p), .ref (w.2.2 9)] _ _ from ?_)
  have hg2 := (hA.2.2 (od p) (by omega) (by omega)).2.1.1
  refine P_aw_rldv P_i38_31 (hw.2.1 9 (by decide)) (hw.s rfl) (by decide) (by omega) (by omega) (by decide) ((hA.2.2 (od p) (by omega) (by omega)).1) (by omega) (show P_aw _ _ _ 32 [.ref (w.2.2 6), P_z (od p), P_un] [.ref (w.2.2 (tb (od p)))] _ _ from ?_)
  refine P_aw_op (L' := [.ref (w.2.2 6), P_z (od p), .ref (w.2.2 (tb (od p)))]) (st' := []) P_i38_32 rfl (show P_aw _ _ _ 33 [.ref (w.2.2 6), P_z (od p), .ref (w.2.2 (tb (od p)))] [] _ _ from ?_)
  refine P_aw_op (L' := [.ref (w.2.2 6), P_z (od p), .ref (w.2.2 (tb (od p)))]) (st' := [.ref (w.2.2 (tb (od p)))]) P_i38_33 rfl (show P_aw _ _ _ 34 [.ref (w.2.2 6), P_z (od p), .ref (w.2.2 (tb (od p)))] [.ref (w.2.2 (tb (od p)))] _ _ from ?_)
  refine P_aw_brt P_i38_34 rfl (show P_aw _ _ _ 44 [.ref (w.2.2 6), P_z (od p), .ref (w.2.2 (tb (od p)))] [] _ _ from ?_)
  refine P_aw_op (L' := [.ref (w.2.2 6), P_z (od p), .ref (w.2.2 (tb (od p)))]) (st' := [.ref (w.2.2 (tb (od p)))]) P_i38_44 rfl (show P_aw _ _ _ 45 [.ref (w.2.2 6), P_z (od p), .ref (w.2.2 (tb (od p)))] [.ref (w.2.2 (tb (od p)))] _ _ from ?_)
  refine P_aw_end P_i38_45 rfl rfl (fun _ => rfl) rfl ?_
  show P_aw _ _ _ 34 [.ref (w.2.2 42), P_z p, P_z (od p), P_un, P_un] [.ref (w.2.2 (tb (od p)))] _ _
  refine P_aw_call P_i134_34 rfl rfl (fun _ => rfl) rfl rfl rfl rfl (y2 := 120) (as := [.ref (w.2.2 (tb (od p)))]) (r0 := []) (P_inv_v (hA.2.2 (od p) (by omega) (by omega)).2.1.2.1.2 (hA.2.2 (od p) (by omega) (by omega)).2.1.2.1.1 rfl rfl) (Nat.le_of_ble_eq_true rfl) (by decide) rfl (Nat.le_of_ble_eq_true rfl) (show P_aw _ _ _ 0 [.ref (w.2.2 (tb (od p)))] [] _ _ from ?_)
  refine P_aw_op (L' := [.ref (w.2.2 (tb (od p)))]) (st' := [.ref (w.2.2 (tb (od p)))]) P_i120_0 rfl (show P_aw _ _ _ 1 [.ref (w.2.2 (tb (od p)))] [.ref (w.2.2 (tb (od p)))] _ _ from ?_)
  have hg3 := (hA.2.2 (od p) (by omega) (by omega)).2.2.2.1
  refine P_aw_getv P_i120_1 (hA.2.2 (od p) (by omega) (by omega)).2.1.2.1.2 (hA.2.2 (od p) (by omega) (by omega)).2.1.2.1.1 rfl rfl ((hA.2.2 (od p) (by omega) (by omega)).2.2.1) (show P_aw _ _ _ 4 [.ref (w.2.2 (tb (od p)))] [P_z (rw (od p))] _ _ from ?_)
  refine P_aw_end P_i120_4 rfl rfl (fun _ => rfl) rfl ?_
  show P_aw _ _ _ 37 [.ref (w.2.2 42), P_z p, P_z (od p), P_un, P_un] [P_z (rw (od p))] _ _
  refine P_aw_op (L' := [.ref (w.2.2 42), P_z p, P_z (od p), P_z (rw (od p)), P_un]) (st' := []) P_i134_37 rfl (show P_aw _ _ _ 38 [.ref (w.2.2 42), P_z p, P_z (od p), P_z (rw (od p)), P_un] [] _ _ from ?_)
  refine P_aw_op (L' := [.ref (w.2.2 42), P_z p, P_z (od p), P_z (rw (od p)), P_un]) (st' := [P_z 0]) P_i134_38 rfl (show P_aw _ _ _ 39 [.ref (w.2.2 42), P_z p, P_z (od p), P_z (rw (od p)), P_un] [P_z 0] _ _ from ?_)
  refine P_aw_op (L' := [.ref (w.2.2 42), P_z p, P_z (od p), P_z (rw (od p)), P_z 0]) (st' := []) P_i134_39 rfl (show P_aw _ _ _ 41 [.ref (w.2.2 42), P_z p, P_z (od p), P_z (rw (od p)), P_z 0] [] _ _ from ?_)
  exact s_gi42 (k := 1) hw hl42 hl43 hwo1 hms hok htk hI ⟨by omega, by omega⟩ (fun σ S hW hI0 q => s_go42_1 hw hl42 hl43 hwo1 hms hok htk hI hM ⟨by omega, by omega⟩ σ S hW hI0 q) (rw (od p)).toNat σ 0 S hW hI0 (by omega) (by omega) (by omega) q

theorem s_go42_3 {w : P_Lw} (hw : P_Cw w) {d : Nat} {Q : P_R → P_A → Prop} {ns : Int} {tb : Int → Nat} {rw : Int → Int} {vr : Int → Int → Int} {cl : Int → Int} {V : Int → Int → Int → Int} {cs : List A_cd} {wo : Int} {od : Int → Int} {most : Int} (hl42 : w.2.1 42 = true) (hl43 : w.2.1 43 = true) (hwo1 : -1 ≤ wo ∧ wo ≤ 12) (hms : 0 ≤ most ∧ most ≤ 1000000000) (hok : A_oks ns cs) (htk : A_tks ns cl cs) {Inv : Int → Int → Int → P_A → Prop} (hI : ∀ rd ck mt rd' ck' σ σ', Inv rd ck mt σ → rd ≤ rd' → ck ≤ ck' → A_cn 42 σ σ' → Inv rd' ck' mt σ') (hM : ∀ {d : Nat} {Q : P_R → P_A → Prop} (σ : P_A) (S : A_st), A_Wt w 42 σ ns tb rw vr cl V cs wo od most S → Inv S.2.1 S.2.2.1 (S.2.2.2 - 1) σ → (∀ σ', (∀ a b, σ' a b = σ a b) → Inv S.2.1 S.2.2.1 S.2.2.2 σ' → Q (.inl none) σ') → P_aw w (d + 6) 21 0 [.ref (w.2.2 42)] [] σ Q) {p : Int} (hp : 0 ≤ p ∧ p + 3 = ns) (σ : P_A) (S : A_st) (hW : A_Wt w 42 σ ns tb rw vr cl V cs wo od most S) (hI0 : Inv S.2.1 S.2.2.1 S.2.2.2 σ) (q : (∀ σ', (∀ a b, ¬ (42 ≤ a ∧ a ≤ 43) → σ' a b = σ a b) → (∀ b, b = 15 ∨ b = 16 → σ' 42 b = σ 42 b) → A_Wt w 42 σ' ns tb rw vr cl V cs wo od most (A_go most (fun p ρ => A_hl (A_val V rw ρ) p wo cs 0) od rw 3 p S) → Inv (A_go most (fun p ρ => A_hl (A_val V rw ρ) p wo cs 0) od rw 3 p S).2.1 (A_go most (fun p ρ => A_hl (A_val V rw ρ) p wo cs 0) od rw 3 p S).2.2.1 (A_go most (fun p ρ => A_hl (A_val V rw ρ) p wo cs 0) od rw 3 p S).2.2.2 σ' → Q (.inl none) σ')) : P_aw w (d + 9) 134 0 [.ref (w.2.2 42), P_z p, P_un, P_un, P_un] [] σ Q := by
  obtain ⟨hS, hO, hms4, hrd, hck, hmt, hmr⟩ := id hW
  obtain ⟨hA, hX, hK, hwo, hρ⟩ := id hS
  have hns := hA.2.1
  have hod := (hO p (by omega) (by omega)).2
  have hrw := (hA.2.2 (od p) (by omega) (by omega)).2.2.2.1
  refine P_aw_op (L' := [.ref (w.2.2 42), P_z p, P_un, P_un, P_un]) (st' := [P_z p]) P_i134_0 rfl (show P_aw _ _ _ 1 [.ref (w.2.2 42), P_z p, P_un, P_un, P_un] [P_z p] _ _ from ?_)
  refine P_aw_op (L' := [.ref (w.2.2 42), P_z p, P_un, P_un, P_un]) (st' := [.ref (w.2.2 42), P_z p]) P_i134_1 rfl (show P_aw _ _ _ 2 [.ref (w.2.2 42), P_z p, P_un, P_un, P_un] [.ref (w.2.2 42), P_z p] _ _ from ?_)
  refine P_aw_getR P_i134_2 hl42 (hw.s rfl) rfl rfl (show P_aw _ _ _ 5 [.ref (w.2.2 42), P_z p, P_un, P_un, P_un] [.ref (w.2.2 6), P_z p] _ _ from ?_)
  refine P_aw_call P_i134_5 rfl rfl (fun _ => rfl) rfl rfl rfl rfl (y2 := 30) (as := [.ref (w.2.2 6)]) (r0 := [P_z p]) (P_inv_v (hw.2.1 6 (by decide)) (hw.s rfl) rfl rfl) (Nat.le_of_ble_eq_true rfl) (by decide) rfl (Nat.le_of_ble_eq_true rfl) (show P_aw _ _ _ 0 [.ref (w.2.2 6)] [] _ _ from ?_)
  refine P_aw_op (L' := [.ref (w.2.2 6)]) (st' := [.ref (w.2.2 6)]) P_i30_0 rfl (show P_aw _ _ _ 1 [.ref (w.2.2 6)] [.ref (w.2.2 6)] _ _ from ?_)
  refine P_aw_getv P_i30_1 (hw.2.1 6 (by decide)) (hw.s rfl) rfl rfl (hA.1) (show P_aw _ _ _ 4 [.ref (w.2.2 6)] [P_z ns] _ _ from ?_)
  refine P_aw_end P_i30_4 rfl rfl (fun _ => rfl) rfl ?_
  show P_aw _ _ _ 8 [.ref (w.2.2 42), P_z p, P_un, P_un, P_un] [P_z ns, P_z p] _ _
  refine P_aw_icf P_i134_8 ⟨by omega, by omega⟩ ⟨by omega, by omega⟩ (P_ci_gef (by omega)) (show P_aw _ _ _ 11 [.ref (w.2.2 42), P_z p, P_un, P_un, P_un] [] _ _ from ?_)
  refine P_aw_op (L' := [.ref (w.2.2 42), P_z p, P_un, P_un, P_un]) (st' := [P_z p]) P_i134_11 rfl (show P_aw _ _ _ 12 [.ref (w.2.2 42), P_z p, P_un, P_un, P_un] [P_z p] _ _ from ?_)
  refine P_aw_op (L' := [.ref (w.2.2 42), P_z p, P_un, P_un, P_un]) (st' := [P_z 3, P_z p]) P_i134_12 rfl (show P_aw _ _ _ 13 [.ref (w.2.2 42), P_z p, P_un, P_un, P_un] [P_z 3, P_z p] _ _ from ?_)
  refine P_aw_ict P_i134_13 ⟨by omega, by omega⟩ ⟨by decide, by decide⟩ (P_ci_ltt (by omega)) (show P_aw _ _ _ 17 [.ref (w.2.2 42), P_z p, P_un, P_un, P_un] [] _ _ from ?_)
  refine P_aw_op (L' := [.ref (w.2.2 42), P_z p, P_un, P_un, P_un]) (st' := [.ref (w.2.2 42)]) P_i134_17 rfl (show P_aw _ _ _ 18 [.ref (w.2.2 42), P_z p, P_un, P_un, P_un] [.ref (w.2.2 42)] _ _ from ?_)
  refine P_aw_getR P_i134_18 hl42 (hw.s rfl) rfl rfl (show P_aw _ _ _ 21 [.ref (w.2.2 42), P_z p, P_un, P_un, P_un] [.ref (w.2.2 13)] _ _ from ?_)
  refine P_aw_op (L' := [.ref (w.2.2 42), P_z p, P_un, P_un, P_un]) (st' := [P_z p, .ref (w.2.2 13)]) P_i134_21 rfl (show P_aw _ _ _ 22 [.ref (w.2.2 42), P_z p, P_un, P_un, P_un] [P_z p, .ref (w.2.2 13)] _ _ from ?_)
  refine P_aw_call P_i134_22 rfl rfl (fun _ => rfl) rfl rfl rfl rfl (y2 := 58) (as := [.ref (w.2.2 13), P_z p]) (r0 := []) (P_inv_v (hw.2.1 13 (by decide)) (hw.s rfl) rfl rfl) (Nat.le_of_ble_eq_true rfl) (by decide) rfl (Nat.le_of_ble_eq_true rfl) (show P_aw _ _ _ 0 [.ref (w.2.2 13), P_z p] [] _ _ from ?_)
  refine P_aw_op (L' := [.ref (w.2.2 13), P_z p]) (st' := [.ref (w.2.2 13)]) P_i58_0 rfl (show P_aw _ _ _ 1 [.ref (w.2.2 13), P_z p] [.ref (w.2.2 13)] _ _ from ?_)
  refine P_aw_getR P_i58_1 (hw.2.1 13 (by decide)) (hw.s rfl) rfl rfl (show P_aw _ _ _ 4 [.ref (w.2.2 13), P_z p] [.ref (w.2.2 28)] _ _ from ?_)
  refine P_aw_op (L' := [.ref (w.2.2 13), P_z p]) (st' := [P_z p, .ref (w.2.2 28)]) P_i58_4 rfl (show P_aw _ _ _ 5 [.ref (w.2.2 13), P_z p] [P_z p, .ref (w.2.2 28)] _ _ from ?_)
  refine P_aw_call P_i58_5 rfl rfl (fun _ => rfl) rfl rfl rfl rfl (y2 := 178) (as := [.ref (w.2.2 28), P_z p]) (r0 := []) (fun _ _ => rfl) (Nat.le_of_ble_eq_true rfl) (by decide) rfl (Nat.le_of_ble_eq_true rfl) (show P_aw _ _ _ 0 [.ref (w.2.2 28), P_z p] [] _ _ from ?_)
  refine P_aw_op (L' := [.ref (w.2.2 28), P_z p]) (st' := [P_z p]) P_i178_0 rfl (show P_aw _ _ _ 1 [.ref (w.2.2 28), P_z p] [P_z p] _ _ from ?_)
  refine P_aw_izf P_i178_1 ⟨by omega, by omega⟩ (P_ci_ltf (by omega)) (show P_aw _ _ _ 4 [.ref (w.2.2 28), P_z p] [] _ _ from ?_)
  refine P_aw_op (L' := [.ref (w.2.2 28), P_z p]) (st' := [P_z p]) P_i178_4 rfl (show P_aw _ _ _ 5 [.ref (w.2.2 28), P_z p] [P_z p] _ _ from ?_)
  refine P_aw_op (L' := [.ref (w.2.2 28), P_z p]) (st' := [.ref (w.2.2 28), P_z p]) P_i178_5 rfl (show P_aw _ _ _ 6 [.ref (w.2.2 28), P_z p] [.ref (w.2.2 28), P_z p] _ _ from ?_)
  refine P_aw_alen P_i178_6 (hw.2.1 28 (by decide)) (hw.s rfl) (show P_aw _ _ _ 7 [.ref (w.2.2 28), P_z p] [P_z 3, P_z p] _ _ from ?_)
  refine P_aw_icf P_i178_7 ⟨by omega, by omega⟩ ⟨by decide, by decide⟩ (P_ci_gef (by omega)) (show P_aw _ _ _ 10 [.ref (w.2.2 28), P_z p] [] _ _ from ?_)
  refine P_aw_op (L' := [.ref (w.2.2 28), P_z p]) (st' := [.ref (w.2.2 28)]) P_i178_10 rfl (show P_aw _ _ _ 11 [.ref (w.2.2 28), P_z p] [.ref (w.2.2 28)] _ _ from ?_)
  refine P_aw_op (L' := [.ref (w.2.2 28), P_z p]) (st' := [P_z p, .ref (w.2.2 28)]) P_i178_11 rfl (show P_aw _ _ _ 12 [.ref (w.2.2 28), P_z p] [P_z p, .ref (w.2.2 28)] _ _ from ?_)
  have hg1 := (hO p (by omega) (by omega)).2
  refine P_aw_aldv P_i178_12 (hw.2.1 28 (by decide)) (hw.s rfl) (by omega) (by omega) (by decide) ((hO p (by omega) (by omega)).1) (show P_aw _ _ _ 13 [.ref (w.2.2 28), P_z p] [P_z (od p)] _ _ from ?_)
  refine P_aw_goto P_i178_13 (show P_aw _ _ _ 17 [.ref (w.2.2 28), P_z p] [P_z (od p)] _ _ from ?_)
  refine P_aw_end P_i178_17 rfl rfl (fun _ => rfl) rfl ?_
  show P_aw _ _ _ 8 [.ref (w.2.2 13), P_z p] [P_z (od p)] _ _
  refine P_aw_end P_i58_8 rfl rfl (fun _ => rfl) rfl ?_
  show P_aw _ _ _ 25 [.ref (w.2.2 42), P_z p, P_un, P_un, P_un] [P_z (od p)] _ _
  refine P_aw_op (L' := [.ref (w.2.2 42), P_z p, P_z (od p), P_un, P_un]) (st' := []) P_i134_25 rfl (show P_aw _ _ _ 26 [.ref (w.2.2 42), P_z p, P_z (od p), P_un, P_un] [] _ _ from ?_)
  refine P_aw_op (L' := [.ref (w.2.2 42), P_z p, P_z (od p), P_un, P_un]) (st' := [.ref (w.2.2 42)]) P_i134_26 rfl (show P_aw _ _ _ 27 [.ref (w.2.2 42), P_z p, P_z (od p), P_un, P_un] [.ref (w.2.2 42)] _ _ from ?_)
  refine P_aw_getR P_i134_27 hl42 (hw.s rfl) rfl rfl (show P_aw _ _ _ 30 [.ref (w.2.2 42), P_z p, P_z (od p), P_un, P_un] [.ref (w.2.2 6)] _ _ from ?_)
  refine P_aw_op (L' := [.ref (w.2.2 42), P_z p, P_z (od p), P_un, P_un]) (st' := [P_z (od p), .ref (w.2.2 6)]) P_i134_30 rfl (show P_aw _ _ _ 31 [.ref (w.2.2 42), P_z p, P_z (od p), P_un, P_un] [P_z (od p), .ref (w.2.2 6)] _ _ from ?_)
  refine P_aw_call P_i134_31 rfl rfl (fun _ => rfl) rfl rfl rfl rfl (y2 := 38) (as := [.ref (w.2.2 6), P_z (od p)]) (r0 := []) (P_inv_v (hw.2.1 6 (by decide)) (hw.s rfl) rfl rfl) (Nat.le_of_ble_eq_true rfl) (by decide) rfl (Nat.le_of_ble_eq_true rfl) (show P_aw _ _ _ 0 [.ref (w.2.2 6), P_z (od p), P_un] [] _ _ from ?_)
  refine P_aw_op (L' := [.ref (w.2.2 6), P_z (od p), P_un]) (st' := [P_z (od p)]) P_i38_0 rfl (show P_aw _ _ _ 1 [.ref (w.2.2 6), P_z (od p), P_un] [P_z (od p)] _ _ from ?_)
  refine P_aw_izf P_i38_1 ⟨by omega, by omega⟩ (P_ci_ltf (by omega)) (show P_aw _ _ _ 4 [.ref (w.2.2 6), P_z (od p), P_un] [] _ _ from ?_)
  refine P_aw_op (L' := [.ref (w.2.2 6), P_z (od p), P_un]) (st' := [P_z (od p)]) P_i38_4 rfl (show P_aw _ _ _ 5 [.ref (w.2.2 6), P_z (od p), P_un] [P_z (od p)] _ _ from ?_)
  refine P_aw_op (L' := [.ref (w.2.2 6), P_z (od p), P_un]) (st' := [.ref (w.2.2 6), P_z (od p)]) P_i38_5 rfl (show P_aw _ _ _ 6 [.ref (w.2.2 6), P_z (od p), P_un] [.ref (w.2.2 6), P_z (od p)] _ _ from ?_)
  refine P_aw_getv P_i38_6 (hw.2.1 6 (by decide)) (hw.s rfl) rfl rfl (hA.1) (show P_aw _ _ _ 9 [.ref (w.2.2 6), P_z (od p), P_un] [P_z ns, P_z (od p)] _ _ from ?_)
  refine P_aw_icf P_i38_9 ⟨by omega, by omega⟩ ⟨by omega, by omega⟩ (P_ci_gef (by omega)) (show P_aw _ _ _ 12 [.ref (w.2.2 6), P_z (od p), P_un] [] _ _ from ?_)
  refine P_aw_op (L' := [.ref (w.2.2 6), P_z (od p), P_un]) (st' := [P_z (od p)]) P_i38_12 rfl (show P_aw _ _ _ 13 [.ref (w.2.2 6), P_z (od p), P_un] [P_z (od p)] _ _ from ?_)
  refine P_aw_op (L' := [.ref (w.2.2 6), P_z (od p), P_un]) (st' := [.ref (w.2.2 6), P_z (od p)]) P_i38_13 rfl (show P_aw _ _ _ 14 [.ref (w.2.2 6), P_z (od p), P_un] [.ref (w.2.2 6), P_z (od p)] _ _ from ?_)
  refine P_aw_getR P_i38_14 (hw.2.1 6 (by decide)) (hw.s rfl) rfl rfl (show P_aw _ _ _ 17 [.ref (w.2.2 6), P_z (od p), P_un] [.ref (w.2.2 9), P_z (od p)] _ _ from ?_)
  refine P_aw_rlen P_i38_17 (hw.2.1 9 (by decide)) (hw.s rfl) (show P_aw _ _ _ 18 [.ref (w.2.2 6), P_z (od p), P_un] [P_z 3, P_z (od p)] _ _ from ?_)
  refine P_aw_ict P_i38_18 ⟨by omega, by omega⟩ ⟨by decide, by decide⟩ (P_ci_ltt (by omega)) (show P_aw _ _ _ 26 [.ref (w.2.2 6), P_z (od p), P_un] [] _ _ from ?_)
  refine P_aw_op (L' := [.ref (w.2.2 6), P_z (od p), P_un]) (st' := [.ref (w.2.2 6)]) P_i38_26 rfl (show P_aw _ _ _ 27 [.ref (w.2.2 6), P_z (od p), P_un] [.ref (w.2.2 6)] _ _ from ?_)
  refine P_aw_getR P_i38_27 (hw.2.1 6 (by decide)) (hw.s rfl) rfl rfl (show P_aw _ _ _ 30 [.ref (w.2.2 6), P_z (od p), P_un] [.ref (w.2.2 9)] _ _ from ?_)
  refine P_aw_op (L' := [.ref (w.2.2 6), P_z (od p), P_un]) (st' := [P_z (od p), .ref (w.2.2 9)]) P_i38_30 rfl (show P_aw _ _ _ 31 [.ref (w.2.2 6), P_z (od p), P_un] [P_z (od p), .ref (w.2.2 9)] _ _ from ?_)
  have hg2 := (hA.2.2 (od p) (by omega) (by omega)).2.1.1
  refine P_aw_rldv P_i38_31 (hw.2.1 9 (by decide)) (hw.s rfl) (by decide) (by omega) (by omega) (by decide) ((hA.2.2 (od p) (by omega) (by omega)).1) (by omega) (show P_aw _ _ _ 32 [.ref (w.2.2 6), P_z (od p), P_un] [.ref (w.2.2 (tb (od p)))] _ _ from ?_)
  refine P_aw_op (L' := [.ref (w.2.2 6), P_z (od p), .ref (w.2.2 (tb (od p)))]) (st' := []) P_i38_32 rfl (show P_aw _ _ _ 33 [.ref (w.2.2 6), P_z (od p), .ref (w.2.2 (tb (od p)))] [] _ _ from ?_)
  refine P_aw_op (L' := [.ref (w.2.2 6), P_z (od p), .ref (w.2.2 (tb (od p)))]) (st' := [.ref (w.2.2 (tb (od p)))]) P_i38_33 rfl (show P_aw _ _ _ 34 [.ref (w.2.2 6), P_z (od p), .ref (w.2.2 (tb (od p)))] [.ref (w.2.2 (tb (od p)))] _ _ from ?_)
  refine P_aw_brt P_i38_34 rfl (show P_aw _ _ _ 44 [.ref (w.2.2 6), P_z (od p), .ref (w.2.2 (tb (od p)))] [] _ _ from ?_)
  refine P_aw_op (L' := [.ref (w.2.2 6), P_z (od p), .ref (w.2.2 (tb (od p)))]) (st' := [.ref (w.2.2 (tb (od p)))]) P_i38_44 rfl (show P_aw _ _ _ 45 [.ref (w.2.2 6), P_z (od p), .ref (w.2.2 (tb (od p)))] [.ref (w.2.2 (tb (od p)))] _ _ from ?_)
  refine P_aw_end P_i38_45 rfl rfl (fun _ => rfl) rfl ?_
  show P_aw _ _ _ 34 [.ref (w.2.2 42), P_z p, P_z (od p), P_un, P_un] [.ref (w.2.2 (tb (od p)))] _ _
  refine P_aw_call P_i134_34 rfl rfl (fun _ => rfl) rfl rfl rfl rfl (y2 := 120) (as := [.ref (w.2.2 (tb (od p)))]) (r0 := []) (P_inv_v (hA.2.2 (od p) (by omega) (by omega)).2.1.2.1.2 (hA.2.2 (od p) (by omega) (by omega)).2.1.2.1.1 rfl rfl) (Nat.le_of_ble_eq_true rfl) (by decide) rfl (Nat.le_of_ble_eq_true rfl) (show P_aw _ _ _ 0 [.ref (w.2.2 (tb (od p)))] [] _ _ from ?_)
  refine P_aw_op (L' := [.ref (w.2.2 (tb (od p)))]) (st' := [.ref (w.2.2 (tb (od p)))]) P_i120_0 rfl (show P_aw _ _ _ 1 [.ref (w.2.2 (tb (od p)))] [.ref (w.2.2 (tb (od p)))] _ _ from ?_)
  have hg3 := (hA.2.2 (od p) (by omega) (by omega)).2.2.2.1
  refine P_aw_getv P_i120_1 (hA.2.2 (od p) (by omega) (by omega)).2.1.2.1.2 (hA.2.2 (od p) (by omega) (by omega)).2.1.2.1.1 rfl rfl ((hA.2.2 (od p) (by omega) (by omega)).2.2.1) (show P_aw _ _ _ 4 [.ref (w.2.2 (tb (od p)))] [P_z (rw (od p))] _ _ from ?_)
  refine P_aw_end P_i120_4 rfl rfl (fun _ => rfl) rfl ?_
  show P_aw _ _ _ 37 [.ref (w.2.2 42), P_z p, P_z (od p), P_un, P_un] [P_z (rw (od p))] _ _
  refine P_aw_op (L' := [.ref (w.2.2 42), P_z p, P_z (od p), P_z (rw (od p)), P_un]) (st' := []) P_i134_37 rfl (show P_aw _ _ _ 38 [.ref (w.2.2 42), P_z p, P_z (od p), P_z (rw (od p)), P_un] [] _ _ from ?_)
  refine P_aw_op (L' := [.ref (w.2.2 42), P_z p, P_z (od p), P_z (rw (od p)), P_un]) (st' := [P_z 0]) P_i134_38 rfl (show P_aw _ _ _ 39 [.ref (w.2.2 42), P_z p, P_z (od p), P_z (rw (od p)), P_un] [P_z 0] _ _ from ?_)
  refine P_aw_op (L' := [.ref (w.2.2 42), P_z p, P_z (od p), P_z (rw (od p)), P_z 0]) (st' := []) P_i134_39 rfl (show P_aw _ _ _ 41 [.ref (w.2.2 42), P_z p, P_z (od p), P_z (rw (od p)), P_z 0] [] _ _ from ?_)
  exact s_gi42 (k := 2) hw hl42 hl43 hwo1 hms hok htk hI ⟨by omega, by omega⟩ (fun σ S hW hI0 q => s_go42_2 hw hl42 hl43 hwo1 hms hok htk hI hM ⟨by omega, by omega⟩ σ S hW hI0 q) (rw (od p)).toNat σ 0 S hW hI0 (by omega) (by omega) (by omega) q

theorem s_walk42 {w : P_Lw} (hw : P_Cw w) {d : Nat} {Q : P_R → P_A → Prop} {σ : P_A} {ns : Int} {tb : Int → Nat} {rw : Int → Int} {vr : Int → Int → Int} {cl : Int → Int} {V : Int → Int → Int → Int} {cs : List A_cd} {wo : Int} {od : Int → Int} {most : Int} (hl42 : w.2.1 42 = true) (hl43 : w.2.1 43 = true) (hwo1 : -1 ≤ wo ∧ wo ≤ 12) (hms : 0 ≤ most ∧ most ≤ 1000000000) (hok : A_oks ns cs) (htk : A_tks ns cl cs) {Inv : Int → Int → Int → P_A → Prop} (hI : ∀ rd ck mt rd' ck' σ σ', Inv rd ck mt σ → rd ≤ rd' → ck ≤ ck' → A_cn 42 σ σ' → Inv rd' ck' mt σ') (hM : ∀ {d : Nat} {Q : P_R → P_A → Prop} (σ : P_A) (S : A_st), A_Wt w 42 σ ns tb rw vr cl V cs wo od most S → Inv S.2.1 S.2.2.1 (S.2.2.2 - 1) σ → (∀ σ', (∀ a b, σ' a b = σ a b) → Inv S.2.1 S.2.2.1 S.2.2.2 σ' → Q (.inl none) σ') → P_aw w (d + 6) 21 0 [.ref (w.2.2 42)] [] σ Q) (hA : A_V w σ ns tb rw vr) (hX : A_X σ ns tb rw cl V) (hK : A_KL σ cs) (hO : A_O σ ns od) (hIn : ∀ σ', (∀ a b, ¬ (a = 42 ∧ 3 ≤ b ∧ b ≤ 7) → a ≠ 42 + 1 → σ' a b = σ a b) → Inv 0 0 0 σ') (q : ∀ σ', (∀ a b, ¬ (42 ≤ a ∧ a ≤ 43) → σ' a b = σ a b) → (∀ b, b = 15 ∨ b = 16 → σ' 42 b = σ 42 b) → A_Wt w 42 σ' ns tb rw vr cl V cs wo od most (A_go most (fun p ρ => A_hl (A_val V rw ρ) p wo cs 0) od rw ns.toNat 0 (fun _ => 0, 0, 0, 0)) → Inv (A_go most (fun p ρ => A_hl (A_val V rw ρ) p wo cs 0) od rw ns.toNat 0 (fun _ => 0, 0, 0, 0)).2.1 (A_go most (fun p ρ => A_hl (A_val V rw ρ) p wo cs 0) od rw ns.toNat 0 (fun _ => 0, 0, 0, 0)).2.2.1 (A_go most (fun p ρ => A_hl (A_val V rw ρ) p wo cs 0) od rw ns.toNat 0 (fun _ => 0, 0, 0, 0)).2.2.2 σ' → Q (.inl none) σ') : P_aw w (d + 10) 133 0 [.ref (w.2.2 42), P_z wo, P_z most] [] σ Q := by
  have hns := hA.2.1
  refine P_aw_op (L' := [.ref (w.2.2 42), P_z wo, P_z most]) (st' := [.ref (w.2.2 42)]) P_i133_0 rfl (show P_aw _ _ _ 1 [.ref (w.2.2 42), P_z wo, P_z most] [.ref (w.2.2 42)] _ _ from ?_)
  refine P_aw_op (L' := [.ref (w.2.2 42), P_z wo, P_z most]) (st' := [P_z wo, .ref (w.2.2 42)]) P_i133_1 rfl (show P_aw _ _ _ 2 [.ref (w.2.2 42), P_z wo, P_z most] [P_z wo, .ref (w.2.2 42)] _ _ from ?_)
  refine P_aw_put P_i133_2 hl42 (hw.s rfl) rfl rfl rfl (show P_aw _ _ _ 5 [.ref (w.2.2 42), P_z wo, P_z most] [] _ _ from ?_)
  refine P_aw_op (L' := [.ref (w.2.2 42), P_z wo, P_z most]) (st' := [.ref (w.2.2 42)]) P_i133_5 rfl (show P_aw _ _ _ 6 [.ref (w.2.2 42), P_z wo, P_z most] [.ref (w.2.2 42)] _ _ from ?_)
  refine P_aw_op (L' := [.ref (w.2.2 42), P_z wo, P_z most]) (st' := [P_z most, .ref (w.2.2 42)]) P_i133_6 rfl (show P_aw _ _ _ 7 [.ref (w.2.2 42), P_z wo, P_z most] [P_z most, .ref (w.2.2 42)] _ _ from ?_)
  refine P_aw_put P_i133_7 hl42 (hw.s rfl) rfl rfl rfl (show P_aw _ _ _ 10 [.ref (w.2.2 42), P_z wo, P_z most] [] _ _ from ?_)
  refine P_aw_op (L' := [.ref (w.2.2 42), P_z wo, P_z most]) (st' := [.ref (w.2.2 42)]) P_i133_10 rfl (show P_aw _ _ _ 11 [.ref (w.2.2 42), P_z wo, P_z most] [.ref (w.2.2 42)] _ _ from ?_)
  refine P_aw_op (L' := [.ref (w.2.2 42), P_z wo, P_z most]) (st' := [P_z 0, .ref (w.2.2 42)]) P_i133_11 rfl (show P_aw _ _ _ 12 [.ref (w.2.2 42), P_z wo, P_z most] [P_z 0, .ref (w.2.2 42)] _ _ from ?_)
  refine P_aw_put P_i133_12 hl42 (hw.s rfl) rfl rfl rfl (show P_aw _ _ _ 15 [.ref (w.2.2 42), P_z wo, P_z most] [] _ _ from ?_)
  refine P_aw_op (L' := [.ref (w.2.2 42), P_z wo, P_z most]) (st' := [.ref (w.2.2 42)]) P_i133_15 rfl (show P_aw _ _ _ 16 [.ref (w.2.2 42), P_z wo, P_z most] [.ref (w.2.2 42)] _ _ from ?_)
  refine P_aw_op (L' := [.ref (w.2.2 42), P_z wo, P_z most]) (st' := [P_z 0, .ref (w.2.2 42)]) P_i133_16 rfl (show P_aw _ _ _ 17 [.ref (w.2.2 42), P_z wo, P_z most] [P_z 0, .ref (w.2.2 42)] _ _ from ?_)
  refine P_aw_put P_i133_17 hl42 (hw.s rfl) rfl rfl rfl (show P_aw _ _ _ 20 [.ref (w.2.2 42), P_z wo, P_z most] [] _ _ from ?_)
  refine P_aw_op (L' := [.ref (w.2.2 42), P_z wo, P_z most]) (st' := [.ref (w.2.2 42)]) P_i133_20 rfl (show P_aw _ _ _ 21 [.ref (w.2.2 42), P_z wo, P_z most] [.ref (w.2.2 42)] _ _ from ?_)
  refine P_aw_op (L' := [.ref (w.2.2 42), P_z wo, P_z most]) (st' := [P_z 0, .ref (w.2.2 42)]) P_i133_21 rfl (show P_aw _ _ _ 22 [.ref (w.2.2 42), P_z wo, P_z most] [P_z 0, .ref (w.2.2 42)] _ _ from ?_)
  refine P_aw_put P_i133_22 hl42 (hw.s rfl) rfl rfl rfl (show P_aw _ _ _ 25 [.ref (w.2.2 42), P_z wo, P_z most] [] _ _ from ?_)
  refine P_aw_op (L' := [.ref (w.2.2 42), P_z wo, P_z most]) (st' := [.ref (w.2.2 42)]) P_i133_25 rfl (show P_aw _ _ _ 26 [.ref (w.2.2 42), P_z wo, P_z most] [.ref (w.2.2 42)] _ _ from ?_)
  refine P_aw_getR P_i133_26 hl42 (hw.s rfl) rfl rfl (show P_aw _ _ _ 29 [.ref (w.2.2 42), P_z wo, P_z most] [.ref (w.2.2 43)] _ _ from ?_)
  refine P_aw_op (L' := [.ref (w.2.2 42), P_z wo, P_z most]) (st' := [P_z 0, .ref (w.2.2 43)]) P_i133_29 rfl (show P_aw _ _ _ 30 [.ref (w.2.2 42), P_z wo, P_z most] [P_z 0, .ref (w.2.2 43)] _ _ from ?_)
  refine P_aw_call P_i133_30 rfl rfl (fun _ => rfl) rfl rfl rfl rfl (y2 := 180) (as := [.ref (w.2.2 43), P_z 0]) (r0 := []) (fun _ _ => rfl) (Nat.le_of_ble_eq_true rfl) (by decide) rfl (Nat.le_of_ble_eq_true rfl) (show P_aw _ _ _ 0 [.ref (w.2.2 43), P_z 0, P_un] [] _ _ from ?_)
  refine P_aw_op (L' := [.ref (w.2.2 43), P_z 0, P_un]) (st' := [P_z 0]) P_i180_0 rfl (show P_aw _ _ _ 1 [.ref (w.2.2 43), P_z 0, P_un] [P_z 0] _ _ from ?_)
  refine P_aw_op (L' := [.ref (w.2.2 43), P_z 0, P_z 0]) (st' := []) P_i180_1 rfl (show P_aw _ _ _ 2 [.ref (w.2.2 43), P_z 0, P_z 0] [] _ _ from ?_)
  refine P_aw_op (L' := [.ref (w.2.2 43), P_z 0, P_z 0]) (st' := [P_z 0]) P_i180_2 rfl (show P_aw _ _ _ 3 [.ref (w.2.2 43), P_z 0, P_z 0] [P_z 0] _ _ from ?_)
  refine P_aw_op (L' := [.ref (w.2.2 43), P_z 0, P_z 0]) (st' := [.ref (w.2.2 43), P_z 0]) P_i180_3 rfl (show P_aw _ _ _ 4 [.ref (w.2.2 43), P_z 0, P_z 0] [.ref (w.2.2 43), P_z 0] _ _ from ?_)
  refine P_aw_alen P_i180_4 hl43 (hw.s rfl) (show P_aw _ _ _ 5 [.ref (w.2.2 43), P_z 0, P_z 0] [P_z 3, P_z 0] _ _ from ?_)
  refine P_aw_icf P_i180_5 ⟨by decide, by decide⟩ ⟨by decide, by decide⟩ (P_ci_gef (by omega)) (show P_aw _ _ _ 8 [.ref (w.2.2 43), P_z 0, P_z 0] [] _ _ from ?_)
  refine P_aw_op (L' := [.ref (w.2.2 43), P_z 0, P_z 0]) (st' := [.ref (w.2.2 43)]) P_i180_8 rfl (show P_aw _ _ _ 9 [.ref (w.2.2 43), P_z 0, P_z 0] [.ref (w.2.2 43)] _ _ from ?_)
  refine P_aw_op (L' := [.ref (w.2.2 43), P_z 0, P_z 0]) (st' := [P_z 0, .ref (w.2.2 43)]) P_i180_9 rfl (show P_aw _ _ _ 10 [.ref (w.2.2 43), P_z 0, P_z 0] [P_z 0, .ref (w.2.2 43)] _ _ from ?_)
  refine P_aw_op (L' := [.ref (w.2.2 43), P_z 0, P_z 0]) (st' := [P_z 0, P_z 0, .ref (w.2.2 43)]) P_i180_10 rfl (show P_aw _ _ _ 11 [.ref (w.2.2 43), P_z 0, P_z 0] [P_z 0, P_z 0, .ref (w.2.2 43)] _ _ from ?_)
  refine P_aw_ast P_i180_11 hl43 (hw.s rfl) (by omega) (by omega) (by decide) (show P_aw _ _ _ 12 [.ref (w.2.2 43), P_z 0, P_z 0] [] _ _ from ?_)
  refine P_aw_op (L' := [.ref (w.2.2 43), P_z 0, P_z 1]) (st' := []) P_i180_12 (P_o_iincv (x := 0) rfl (by decide)) (show P_aw _ _ _ 15 [.ref (w.2.2 43), P_z 0, P_z 1] [] _ _ from ?_)
  refine P_aw_goto P_i180_15 (show P_aw _ _ _ 2 [.ref (w.2.2 43), P_z 0, P_z 1] [] _ _ from ?_)
  refine P_aw_op (L' := [.ref (w.2.2 43), P_z 0, P_z 1]) (st' := [P_z 1]) P_i180_2 rfl (show P_aw _ _ _ 3 [.ref (w.2.2 43), P_z 0, P_z 1] [P_z 1] _ _ from ?_)
  refine P_aw_op (L' := [.ref (w.2.2 43), P_z 0, P_z 1]) (st' := [.ref (w.2.2 43), P_z 1]) P_i180_3 rfl (show P_aw _ _ _ 4 [.ref (w.2.2 43), P_z 0, P_z 1] [.ref (w.2.2 43), P_z 1] _ _ from ?_)
  refine P_aw_alen P_i180_4 hl43 (hw.s rfl) (show P_aw _ _ _ 5 [.ref (w.2.2 43), P_z 0, P_z 1] [P_z 3, P_z 1] _ _ from ?_)
  refine P_aw_icf P_i180_5 ⟨by decide, by decide⟩ ⟨by decide, by decide⟩ (P_ci_gef (by omega)) (show P_aw _ _ _ 8 [.ref (w.2.2 43), P_z 0, P_z 1] [] _ _ from ?_)
  refine P_aw_op (L' := [.ref (w.2.2 43), P_z 0, P_z 1]) (st' := [.ref (w.2.2 43)]) P_i180_8 rfl (show P_aw _ _ _ 9 [.ref (w.2.2 43), P_z 0, P_z 1] [.ref (w.2.2 43)] _ _ from ?_)
  refine P_aw_op (L' := [.ref (w.2.2 43), P_z 0, P_z 1]) (st' := [P_z 1, .ref (w.2.2 43)]) P_i180_9 rfl (show P_aw _ _ _ 10 [.ref (w.2.2 43), P_z 0, P_z 1] [P_z 1, .ref (w.2.2 43)] _ _ from ?_)
  refine P_aw_op (L' := [.ref (w.2.2 43), P_z 0, P_z 1]) (st' := [P_z 0, P_z 1, .ref (w.2.2 43)]) P_i180_10 rfl (show P_aw _ _ _ 11 [.ref (w.2.2 43), P_z 0, P_z 1] [P_z 0, P_z 1, .ref (w.2.2 43)] _ _ from ?_)
  refine P_aw_ast P_i180_11 hl43 (hw.s rfl) (by omega) (by omega) (by decide) (show P_aw _ _ _ 12 [.ref (w.2.2 43), P_z 0, P_z 1] [] _ _ from ?_)
  refine P_aw_op (L' := [.ref (w.2.2 43), P_z 0, P_z 2]) (st' := []) P_i180_12 (P_o_iincv (x := 1) rfl (by decide)) (show P_aw _ _ _ 15 [.ref (w.2.2 43), P_z 0, P_z 2] [] _ _ from ?_)
  refine P_aw_goto P_i180_15 (show P_aw _ _ _ 2 [.ref (w.2.2 43), P_z 0, P_z 2] [] _ _ from ?_)
  refine P_aw_op (L' := [.ref (w.2.2 43), P_z 0, P_z 2]) (st' := [P_z 2]) P_i180_2 rfl (show P_aw _ _ _ 3 [.ref (w.2.2 43), P_z 0, P_z 2] [P_z 2] _ _ from ?_)
  refine P_aw_op (L' := [.ref (w.2.2 43), P_z 0, P_z 2]) (st' := [.ref (w.2.2 43), P_z 2]) P_i180_3 rfl (show P_aw _ _ _ 4 [.ref (w.2.2 43), P_z 0, P_z 2] [.ref (w.2.2 43), P_z 2] _ _ from ?_)
  refine P_aw_alen P_i180_4 hl43 (hw.s rfl) (show P_aw _ _ _ 5 [.ref (w.2.2 43), P_z 0, P_z 2] [P_z 3, P_z 2] _ _ from ?_)
  refine P_aw_icf P_i180_5 ⟨by decide, by decide⟩ ⟨by decide, by decide⟩ (P_ci_gef (by omega)) (show P_aw _ _ _ 8 [.ref (w.2.2 43), P_z 0, P_z 2] [] _ _ from ?_)
  refine P_aw_op (L' := [.ref (w.2.2 43), P_z 0, P_z 2]) (st' := [.ref (w.2.2 43)]) P_i180_8 rfl (show P_aw _ _ _ 9 [.ref (w.2.2 43), P_z 0, P_z 2] [.ref (w.2.2 43)] _ _ from ?_)
  refine P_aw_op (L' := [.ref (w.2.2 43), P_z 0, P_z 2]) (st' := [P_z 2, .ref (w.2.2 43)]) P_i180_9 rfl (show P_aw _ _ _ 10 [.ref (w.2.2 43), P_z 0, P_z 2] [P_z 2, .ref (w.2.2 43)] _ _ from ?_)
  refine P_aw_op (L' := [.ref (w.2.2 43), P_z 0, P_z 2]) (st' := [P_z 0, P_z 2, .ref (w.2.2 43)]) P_i180_10 rfl (show P_aw _ _ _ 11 [.ref (w.2.2 43), P_z 0, P_z 2] [P_z 0, P_z 2, .ref (w.2.2 43)] _ _ from ?_)
  refine P_aw_ast P_i180_11 hl43 (hw.s rfl) (by omega) (by omega) (by decide) (show P_aw _ _ _ 12 [.ref (w.2.2 43), P_z 0, P_z 2] [] _ _ from ?_)
  refine P_aw_op (L' := [.ref (w.2.2 43), P_z 0, P_z 3]) (st' := []) P_i180_12 (P_o_iincv (x := 2) rfl (by decide)) (show P_aw _ _ _ 15 [.ref (w.2.2 43), P_z 0, P_z 3] [] _ _ from ?_)
  refine P_aw_goto P_i180_15 (show P_aw _ _ _ 2 [.ref (w.2.2 43), P_z 0, P_z 3] [] _ _ from ?_)
  refine P_aw_op (L' := [.ref (w.2.2 43), P_z 0, P_z 3]) (st' := [P_z 3]) P_i180_2 rfl (show P_aw _ _ _ 3 [.ref (w.2.2 43), P_z 0, P_z 3] [P_z 3] _ _ from ?_)
  refine P_aw_op (L' := [.ref (w.2.2 43), P_z 0, P_z 3]) (st' := [.ref (w.2.2 43), P_z 3]) P_i180_3 rfl (show P_aw _ _ _ 4 [.ref (w.2.2 43), P_z 0, P_z 3] [.ref (w.2.2 43), P_z 3] _ _ from ?_)
  refine P_aw_alen P_i180_4 hl43 (hw.s rfl) (show P_aw _ _ _ 5 [.ref (w.2.2 43), P_z 0, P_z 3] [P_z 3, P_z 3] _ _ from ?_)
  refine P_aw_ict P_i180_5 ⟨by decide, by decide⟩ ⟨by decide, by decide⟩ (P_ci_get (by omega)) (show P_aw _ _ _ 18 [.ref (w.2.2 43), P_z 0, P_z 3] [] _ _ from ?_)
  refine P_aw_end P_i180_18 rfl rfl (fun _ => rfl) rfl ?_
  show P_aw _ _ _ 33 [.ref (w.2.2 42), P_z wo, P_z most] [] _ _
  refine P_aw_op (L' := [.ref (w.2.2 42), P_z wo, P_z most]) (st' := [.ref (w.2.2 42)]) P_i133_33 rfl (show P_aw _ _ _ 34 [.ref (w.2.2 42), P_z wo, P_z most] [.ref (w.2.2 42)] _ _ from ?_)
  refine P_aw_op (L' := [.ref (w.2.2 42), P_z wo, P_z most]) (st' := [P_z 0, .ref (w.2.2 42)]) P_i133_34 rfl (show P_aw _ _ _ 35 [.ref (w.2.2 42), P_z wo, P_z most] [P_z 0, .ref (w.2.2 42)] _ _ from ?_)
  have hW0 := A_Wt_0 (T := 42) (wo := wo) (most := most) (by omega) hA hX hK hO
  have hI0 : Inv 0 0 0 (A_w0 σ 42 wo most) := hIn _ (fun a b h h2 => A_w0_ne h h2)
  refine P_aw_call P_i133_35 rfl rfl (fun _ => rfl) rfl rfl rfl rfl (y2 := 134) (as := [.ref (w.2.2 42), P_z 0]) (r0 := []) (P_inv_v hl42 (hw.s rfl) rfl rfl) (Nat.le_of_ble_eq_true rfl) (by decide) rfl (Nat.le_of_ble_eq_true rfl) ?_
  have hnn : ns = 1 ∨ ns = 2 ∨ ns = 3 := by omega
  rcases hnn with h1 | h1 | h1
  · have e1 : ns.toNat = 1 := by omega
    refine P_aw_mono (s_go42_1 (d := d + 2) hw hl42 hl43 hwo1 hms hok htk hI hM ⟨Int.le_refl 0, by omega⟩ _ _ hW0 hI0 (Q := fun r s => r = .inl none ∧ ((∀ a b, ¬ (42 ≤ a ∧ a ≤ 43) → s a b = A_w0 σ 42 wo most a b) ∧ (∀ b, b = 15 ∨ b = 16 → s 42 b = A_w0 σ 42 wo most 42 b)) ∧ A_Wt w 42 s ns tb rw vr cl V cs wo od most (A_go most (fun p ρ => A_hl (A_val V rw ρ) p wo cs 0) od rw ns.toNat 0 (fun _ => 0, 0, 0, 0)) ∧ Inv (A_go most (fun p ρ => A_hl (A_val V rw ρ) p wo cs 0) od rw ns.toNat 0 (fun _ => 0, 0, 0, 0)).2.1 (A_go most (fun p ρ => A_hl (A_val V rw ρ) p wo cs 0) od rw ns.toNat 0 (fun _ => 0, 0, 0, 0)).2.2.1 (A_go most (fun p ρ => A_hl (A_val V rw ρ) p wo cs 0) od rw ns.toNat 0 (fun _ => 0, 0, 0, 0)).2.2.2 s) (fun s a1 a2 a3 a4 => ⟨rfl, ⟨a1, a2⟩, by rw [e1]; exact a3, by rw [e1]; exact a4⟩)) ?_
    rintro r s ⟨rfl, ⟨a1, a2⟩, a3, a4⟩
    show P_aw _ _ _ 38 [.ref (w.2.2 42), P_z wo, P_z most] [] _ _
    refine P_aw_end P_i133_38 rfl rfl (fun _ => rfl) rfl ?_
    exact q s (fun a b h => (a1 a b h).trans (A_w0_ne (by omega) (by omega))) (fun b h => (a2 b h).trans (A_w0_ne (by omega) (by omega))) a3 a4
  · have e1 : ns.toNat = 2 := by omega
    refine P_aw_mono (s_go42_2 (d := d + 1) hw hl42 hl43 hwo1 hms hok htk hI hM ⟨Int.le_refl 0, by omega⟩ _ _ hW0 hI0 (Q := fun r s => r = .inl none ∧ ((∀ a b, ¬ (42 ≤ a ∧ a ≤ 43) → s a b = A_w0 σ 42 wo most a b) ∧ (∀ b, b = 15 ∨ b = 16 → s 42 b = A_w0 σ 42 wo most 42 b)) ∧ A_Wt w 42 s ns tb rw vr cl V cs wo od most (A_go most (fun p ρ => A_hl (A_val V rw ρ) p wo cs 0) od rw ns.toNat 0 (fun _ => 0, 0, 0, 0)) ∧ Inv (A_go most (fun p ρ => A_hl (A_val V rw ρ) p wo cs 0) od rw ns.toNat 0 (fun _ => 0, 0, 0, 0)).2.1 (A_go most (fun p ρ => A_hl (A_val V rw ρ) p wo cs 0) od rw ns.toNat 0 (fun _ => 0, 0, 0, 0)).2.2.1 (A_go most (fun p ρ => A_hl (A_val V rw ρ) p wo cs 0) od rw ns.toNat 0 (fun _ => 0, 0, 0, 0)).2.2.2 s) (fun s a1 a2 a3 a4 => ⟨rfl, ⟨a1, a2⟩, by rw [e1]; exact a3, by rw [e1]; exact a4⟩)) ?_
    rintro r s ⟨rfl, ⟨a1, a2⟩, a3, a4⟩
    show P_aw _ _ _ 38 [.ref (w.2.2 42), P_z wo, P_z most] [] _ _
    refine P_aw_end P_i133_38 rfl rfl (fun _ => rfl) rfl ?_
    exact q s (fun a b h => (a1 a b h).trans (A_w0_ne (by omega) (by omega))) (fun b h => (a2 b h).trans (A_w0_ne (by omega) (by omega))) a3 a4
  · have e1 : ns.toNat = 3 := by omega
    refine P_aw_mono (s_go42_3 (d := d + 0) hw hl42 hl43 hwo1 hms hok htk hI hM ⟨Int.le_refl 0, by omega⟩ _ _ hW0 hI0 (Q := fun r s => r = .inl none ∧ ((∀ a b, ¬ (42 ≤ a ∧ a ≤ 43) → s a b = A_w0 σ 42 wo most a b) ∧ (∀ b, b = 15 ∨ b = 16 → s 42 b = A_w0 σ 42 wo most 42 b)) ∧ A_Wt w 42 s ns tb rw vr cl V cs wo od most (A_go most (fun p ρ => A_hl (A_val V rw ρ) p wo cs 0) od rw ns.toNat 0 (fun _ => 0, 0, 0, 0)) ∧ Inv (A_go most (fun p ρ => A_hl (A_val V rw ρ) p wo cs 0) od rw ns.toNat 0 (fun _ => 0, 0, 0, 0)).2.1 (A_go most (fun p ρ => A_hl (A_val V rw ρ) p wo cs 0) od rw ns.toNat 0 (fun _ => 0, 0, 0, 0)).2.2.1 (A_go most (fun p ρ => A_hl (A_val V rw ρ) p wo cs 0) od rw ns.toNat 0 (fun _ => 0, 0, 0, 0)).2.2.2 s) (fun s a1 a2 a3 a4 => ⟨rfl, ⟨a1, a2⟩, by rw [e1]; exact a3, by rw [e1]; exact a4⟩)) ?_
    rintro r s ⟨rfl, ⟨a1, a2⟩, a3, a4⟩
    show P_aw _ _ _ 38 [.ref (w.2.2 42), P_z wo, P_z most] [] _ _
    refine P_aw_end P_i133_38 rfl rfl (fun _ => rfl) rfl ?_
    exact q s (fun a b h => (a1 a b h).trans (A_w0_ne (by omega) (by omega))) (fun b h => (a2 b h).trans (A_w0_ne (by omega) (by omega))) a3 a4
