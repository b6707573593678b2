/-! the class, written by wip/c1.py: 73.up -/
/-- plain results, when mt meetings are found -/
def A_Pl (rd ck mt : Int) (σ : P_A) : Prop := σ 31 14 = mt ∧ (0 ≤ mt ∧ mt ≤ 1000000000) ∧ (0 ≤ rd ∧ 0 ≤ ck) ∧ ∀ j : Nat, (j : Int) < mt → j < 2744 → (0 ≤ σ 37 j ∧ σ 37 j ≤ 2743) ∧ (0 ≤ σ 38 j ∧ σ 38 j ≤ rd) ∧ (0 ≤ σ 39 j ∧ σ 39 j ≤ ck)
/-- what a walk of the answer keeps of its results: plain ones, or groups -/
def A_Inv (ns : Int) (cl : Int → Int) (it : Int) (ki ci : Int → Int) (gp oi lm : Int) (rd ck mt : Int) (σ : P_A) : Prop :=
  A_F σ ns cl it ki ci gp oi lm ∧ (0 ≤ rd ∧ 0 ≤ ck) ∧ (A_gth ki it gp = 0 → A_Pl rd ck mt σ) ∧ (A_gth ki it gp = 1 → A_G gp mt σ ∧ σ 31 14 = 0)
theorem A_Inv_mono {ns : Int} {cl : Int → Int} {it : Int} {ki ci : Int → Int} {gp oi lm : Int} : ∀ rd ck mt rd' ck' σ σ', A_Inv ns cl it ki ci gp oi lm rd ck mt σ → rd ≤ rd' → ck ≤ ck' → A_cn 31 σ σ' → A_Inv ns cl it ki ci gp oi lm rd' ck' mt σ' := by
  intro rd ck mt rd' ck' σ σ' h hr hc hcn
  obtain ⟨hF, h0, hP, hG⟩ := h
  have e : ∀ a b, a ≠ 31 → a ≠ 32 → σ' a b = σ a b := fun a b x y => hcn a b (by omega) (by omega)
  refine ⟨A_F_cg (fun a b x y => e a b (by omega) (by omega)) hF, by omega, fun g => ?_, fun g => ?_⟩
  · obtain ⟨p1, p2, p3, p4⟩ := hP g
    refine ⟨(hcn 31 14 (by omega) (by omega)).trans p1, p2, by omega, fun j h1 h2 => ?_⟩
    have := p4 j h1 h2
    rw [e 37 j (by omega) (by omega), e 38 j (by omega) (by omega), e 39 j (by omega) (by omega)]
    omega
  · obtain ⟨⟨g1, g2, g3, g4, g5, g6⟩, g7⟩ := hG g
    have e34 : σ' 34 = σ 34 := funext fun b => e 34 b (by omega) (by omega)
    exact ⟨⟨g1, fun j hj => by rw [e34]; exact g2 j hj, by rw [e34]; exact g3, fun q => by rw [e34]; exact g4 q, fun j hj => by rw [e 35 j (by omega) (by omega)]; exact g5 j hj, fun j hj => by rw [e 36 j (by omega) (by omega)]; exact g6 j hj⟩, (hcn 31 14 (by omega) (by omega)).trans g7⟩
/-- the answer's meeting, as a walk wants it -/
theorem s_met {w : P_Lw} (hw : P_Cw w) {d : Nat} {Q : P_R → P_A → Prop} {ns : Int} {tb : Int → Nat} {rw : Int → Int} {vr : Int → Int → Int} {cl : Int → Int} {V : Int → Int → Int → Int} {cs : List A_cd} {wo : Int} {od : Int → Int} {most : Int} {it : Int} {ki ci : Int → Int} {gp oi lm : Int} (hmost : most ≤ 1000000000) (σ : P_A) (S : A_st) (hW : A_Wt w 31 σ ns tb rw vr cl V cs wo od most S) (hI : A_Inv ns cl it ki ci gp oi lm S.2.1 S.2.2.1 (S.2.2.2 - 1) σ) (q : ∀ σ', (∀ a b, ¬ (33 ≤ a ∧ a ≤ 39) → ¬ (a = 31 ∧ b = 14) → σ' a b = σ a b) → A_Inv ns cl it ki ci gp oi lm S.2.1 S.2.2.1 S.2.2.2 σ' → Q (.inl none) σ') : P_aw w (d + 6) 9 0 [.ref (w.2.2 31)] [] σ Q := by
  obtain ⟨hS, hO, h4, h5, h6, h7, hmr⟩ := hW
  obtain ⟨hA, hX, hK, hwo, hρ⟩ := hS
  obtain ⟨hF, h0, hP, hG⟩ := hI
  have hg := A_gth_rg (ki := ki) (it := it) (gp := gp)
  rcases (by omega : A_gth ki it gp = 0 ∨ A_gth ki it gp = 1) with g | g
  · obtain ⟨p1, p2, p3, p4⟩ := hP g
    refine s_mtp (d := d + 2) hw hF g hρ p1 p2 h5 h6 (fun σ' k1 k2 k3 => ?_)
    refine q σ' (fun a b x y => k1 a b (by omega) y) ⟨A_F_cg (fun a b x y => k1 a b (by omega) (by omega)) hF, h0, fun _ => ⟨by rw [k2]; omega, hmr, h0, fun j j1 j2 => ?_⟩, fun g1 => by omega⟩
    by_cases e : j = (S.2.2.2 - 1).toNat
    · obtain ⟨m1, m2, m3⟩ := k3 (by omega)
      rw [e, m1, m2, m3]
      have r0 := (hρ 0 (by omega) (by omega)).2
      have r1 := (hρ 1 (by omega) (by omega)).2
      have r2 := (hρ 2 (by omega) (by omega)).2
      unfold A_mn
      omega
    · rw [k1 37 j (by omega) (by omega), k1 38 j (by omega) (by omega), k1 39 j (by omega) (by omega)]
      exact p4 j (by omega) j2
  · obtain ⟨gg, g7⟩ := hG g
    refine s_mtg hw hA hX hF g hρ gg (by omega) (fun σ' k1 k2 => ?_)
    have e : S.2.2.2 - 1 + 1 = S.2.2.2 := by omega
    rw [e] at k2
    exact q σ' (fun a b x y => k1 a b (by omega)) ⟨A_F_cg (fun a b x y => k1 a b (by omega)) hF, h0, fun g1 => by omega, fun _ => ⟨k2, (k1 31 14 (by omega)).trans g7⟩⟩

theorem s_cmt {w : P_Lw} (hw : P_Cw w) {d : Nat} {Q : P_R → P_A → Prop} {σ : P_A}  (q : Q (.inl none) σ) : P_aw w (d + 6) 21 0 [.ref (w.2.2 42)] [] σ Q := by
  refine P_aw_end P_i21_0 rfl rfl (fun _ => rfl) rfl ?_
  exact q
