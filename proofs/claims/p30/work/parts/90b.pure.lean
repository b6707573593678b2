/-! the law's own methods, written by wip/g1.py: 90b.pure -/
theorem G_inj {od : Int → Int} {nn : Nat} (hnn : 1 ≤ nn ∧ nn ≤ 3) (h3 : ∀ j, 0 ≤ j → j < (nn : Int) → 0 ≤ od j ∧ od j < (nn : Int)) (h4 : ∀ s, 0 ≤ s → s < (nn : Int) → od 0 = s ∨ 1 < nn ∧ od 1 = s ∨ 2 < nn ∧ od 2 = s) : ∀ q p, 0 ≤ q → q < p → p < (nn : Int) → od q ≠ od p := by
  intro q p h0 h1 h2 e
  rcases (by omega : nn = 1 ∨ nn = 2 ∨ nn = 3) with rfl | rfl | rfl
  · omega
  · have b0 := h4 0 (by omega) (by omega)
    have b1 := h4 1 (by omega) (by omega)
    obtain ⟨rfl, rfl⟩ : q = 0 ∧ p = 1 := by omega
    omega
  · have b0 := h4 0 (by omega) (by omega)
    have b1 := h4 1 (by omega) (by omega)
    have b2 := h4 2 (by omega) (by omega)
    rcases (by omega : (q = 0 ∧ p = 1) ∨ (q = 0 ∧ p = 2) ∨ (q = 1 ∧ p = 2)) with ⟨rfl, rfl⟩ | ⟨rfl, rfl⟩ | ⟨rfl, rfl⟩ <;> omega
theorem G_plc_od {od : Int → Int} {nn : Nat} {s : Int} (h4 : od 0 = s ∨ 1 < nn ∧ od 1 = s ∨ 2 < nn ∧ od 2 = s) : od (A_plc od s) = s := by
  unfold A_plc
  by_cases e0 : od 0 = s
  · rw [if_pos e0]; exact e0
  · rw [if_neg e0]
    by_cases e1 : od 1 = s
    · rw [if_pos e1]; exact e1
    · rw [if_neg e1, if_pos (by omega)]; omega
/-- without a condition no less hold -/
theorem G_hmono {nn : Nat} {sn : Int → Int} {cT : Int → Nat} {cs : List A_cd} {od rw : Int → Int} {V : Int → Int → Int → Int} {k : Int} (hnn : 1 ≤ nn ∧ nn ≤ 3) (hok : ∀ x ∈ cs, P_gok nn sn cT x) (hlv : G_lvs nn od cs) (h4 : ∀ s, 0 ≤ s → s < (nn : Int) → od 0 = s ∨ 1 < nn ∧ od 1 = s ∨ 2 < nn ∧ od 2 = s) : ∀ p, 0 ≤ p → p < (nn : Int) → ∀ ρ ρ' : Int → Int, (∀ q, 0 ≤ q → q < p + 1 → ρ (od q) = ρ' (od q)) → (A_hl (A_val V rw ρ) p (-1) cs 0).1 = true → (A_hl (A_val V rw ρ') p k cs 0).1 = true := by
  intro p hp0 hp1 ρ ρ' hag
  refine A_hl_mono cs 0 (Int.le_refl _) (fun x hx hlx hs => ?_)
  have hl := (hlv x hx).1
  obtain ⟨g1, g2, g3, g4⟩ := hok x hx
  have seat : ∀ c, P_gcol nn sn cT c → A_plc od ((c - 100) / 10) ≤ p → A_val V rw ρ c = A_val V rw ρ' c := by
    intro c hc hpl
    obtain ⟨c1, c2, c3, c4, c5, c6⟩ := P_gcol_v hc
    have ho := G_plc_od (h4 ((c - 100) / 10) (by omega) (by omega))
    have hr := hag (A_plc od ((c - 100) / 10)) A_plc_rg.1 (by omega)
    rw [ho] at hr
    unfold A_val
    rw [hr]
  have hl2 : A_low od x.1 x.2.2.1 ≤ p := by
    have : A_lw od x = A_low od x.1 x.2.2.1 := rfl
    rw [← this]; omega
  have e0 : A_val V rw ρ (A_cf x 0) = A_val V rw ρ' (A_cf x 0) := by
    refine seat x.1 g1 ?_
    unfold A_low at hl2
    split at hl2 <;> omega
  have e2 : A_val V rw ρ (A_cf x 2) = A_val V rw ρ' (A_cf x 2) := by
    rcases g3 with g3 | g3
    · refine seat x.2.2.1 g3 ?_
      have := (P_gcol_v g3).1
      unfold A_low at hl2
      rw [if_pos (by omega)] at hl2
      omega
    · show A_val V rw ρ x.2.2.1 = A_val V rw ρ' x.2.2.1
      unfold A_val
      rw [if_pos g3.1, if_pos g3.1]
  unfold A_sat at hs ⊢
  rw [e0, e2] at hs
  exact hs
theorem G_go0 {hold : Int → (Int → Int) → Bool × Int} {od rw : Int → Int} (k : Nat) (p : Int) (S : A_st) (h : S.2.2.2 = 0) : A_go 0 hold od rw (k + 1) p S = S := by
  simp only [A_go]
  cases (rw (od p)).toNat with
  | zero => rfl
  | succ n =>
    simp only [A_lp]
    rw [if_neg (by omega)]
/-- all that the law's checks rest on -/
def G_nums (sn : Int → Int) (rT : Int → Nat) (VV : Int → Int → Int → Int) (nn : Nat) (cs : List A_cd) (od : Int → Int) (ni : Nat) (ki : Int → Int) (gp oi lm nv a C : Int) : Prop :=
  A_rows od (P_grw sn rT) nn 0 = a ∧ A_all (P_grw sn rT) (nn : Int) = a ∧ (0 ≤ a ∧ a ≤ 343) ∧ (G_ct1 sn rT VV nn cs od (-1)).2.2.2 = C ∧ (0 ≤ C ∧ C ≤ a) ∧
  (∀ k, C ≤ (G_ct1 sn rT VV nn cs od k).2.2.2 ∧ (G_ct1 sn rT VV nn cs od k).2.2.2 ≤ a) ∧
  ((0 ≤ (G_wk sn rT VV nn cs od ni ki gp oi lm nv).2.1 ∧ (G_wk sn rT VV nn cs od ni ki gp oi lm nv).2.1 ≤ 399) ∧ 0 ≤ (G_wk sn rT VV nn cs od ni ki gp oi lm nv).2.2.1 ∧ (G_wk sn rT VV nn cs od ni ki gp oi lm nv).2.2.1 ≤ (G_wk sn rT VV nn cs od ni ki gp oi lm nv).2.1 * (cs.length : Int)) ∧ (0 ≤ (G_wk sn rT VV nn cs od ni ki gp oi lm nv).2.2.2 ∧ (G_wk sn rT VV nn cs od ni ki gp oi lm nv).2.2.2 ≤ a) ∧ (lm = 1000000000 → (G_wk sn rT VV nn cs od ni ki gp oi lm nv).2.2.2 = G_cc a C nv) ∧ G_dfc a C nv
theorem G_nums_J {w : P_Lw} {σ : P_A} {g : P_Gl} {τ : P_A} {G : Nat} {T : Nat} {tt : Int → Nat} {rT : Int → Nat} {tr : Int → Int → Nat} {cT : Int → Nat} {VV : Int → Int → Int → Int} {S nn : Nat} {sn : Int → Int} {D : Nat} {od : Int → Int} {B : Nat} {cs : List A_cd} {ad : Int → Nat} {I ni : Nat} {gi : Int → Int} {vr : Int → Int → Int} {ki ci : Int → Int} {gp oi lm nv dr : Int} (hJ : G_Jx w σ g τ G T tt rT tr cT VV S nn sn D od B cs ad I ni gi vr ki ci gp oi lm nv dr) : ∃ a C, G_nums sn rT VV nn cs od ni ki gp oi lm nv a C := by
  obtain ⟨j1, j2, j3, j4, j5, j6, j7, j8, j9, j10, j11, j12, j13, j14⟩ := hJ
  have hnn := j2.2.2.1
  have hod : ∀ j, 0 ≤ j → j < (nn : Int) → 0 ≤ od j ∧ od j < (nn : Int) := fun j x y => (j3.2.2.1 j x y).2
  have h4 := j3.2.2.2
  have hr7 : ∀ p, 0 ≤ p → p < (nn : Int) → 0 ≤ P_grw sn rT (od p) ∧ P_grw sn rT (od p) ≤ 7 := fun p x y => by
    have h1 := hod p x y
    have h2 := (j2.2.2.2 _ h1.1 h1.2).2
    have h3 := (j1.2.2.2 _ h2.1 h2.2).1.2.2.1
    unfold P_grw
    omega
  have hrn : ∀ p, 0 ≤ P_grw sn rT (od p) := fun p => by unfold P_grw; omega
  have hrows := A_rows_rg (od := od) (rw := P_grw sn rT) hr7 hnn
  have hall := A_rows_all (od := od) (rw := P_grw sn rT) hnn hod h4
  obtain ⟨m, hm⟩ : ∃ m, nn = m + 1 := ⟨nn - 1, by omega⟩
  have htn : ((nn : Nat) : Int).toNat = m + 1 := by omega
  have hh : ∀ (k p : Int) (ρ : Int → Int), 0 ≤ (A_hl (A_val (G_V sn VV) (P_grw sn rT) ρ) p k cs 0).2 ∧ (A_hl (A_val (G_V sn VV) (P_grw sn rT) ρ) p k cs 0).2 ≤ (cs.length : Int) := fun k p ρ => A_hl_rg cs 0
  have hgr : ∀ (most k : Int), A_gr (cs.length : Int) (A_rows od (P_grw sn rT) nn 0) (fun _ => 0, 0, 0, 0) (A_go most (fun p ρ => A_hl (A_val (G_V sn VV) (P_grw sn rT) ρ) p k cs 0) od (P_grw sn rT) ((nn : Nat) : Int).toNat 0 (fun _ => 0, 0, 0, 0)) := fun most k => by
    rw [htn, hm]
    exact A_gr_go (hh k) hrn m 0 _
  have hgu : ∀ k : Int, G_ct1 sn rT VV nn cs od k = A_gu (fun p ρ => A_hl (A_val (G_V sn VV) (P_grw sn rT) ρ) p k cs 0) od (P_grw sn rT) nn 0 (fun _ => 0, 0, 0, 0) := fun k => by
    unfold G_ct1
    rw [htn]
    rw [hm] at hrows ⊢
    exact A_gu_eq (hh k) hrn m 0 _ (by show (0 : Int) + A_rows od (P_grw sn rT) (m + 1) 0 < 1000000000; omega)
  have hct : ∀ k, (G_ct1 sn rT VV nn cs od (-1)).2.2.2 ≤ (G_ct1 sn rT VV nn cs od k).2.2.2 := fun k => by
    rw [hgu, hgu]
    exact (A_gu_mono (nn := nn) (G_inj hnn hod h4) (G_hmono hnn j6 j7 h4) nn 0 (Int.le_refl _) (by omega) _ _ ⟨fun _ _ _ => rfl, Int.le_refl _⟩).2
  have hC0 := hgr 1000000000 (-1)
  have hCb : 0 ≤ (G_ct1 sn rT VV nn cs od (-1)).2.2.2 ∧ (G_ct1 sn rT VV nn cs od (-1)).2.2.2 ≤ A_rows od (P_grw sn rT) nn 0 := ⟨hC0.2.2.2.1, by have := hC0.2.2.2.2; show _ ≤ _; simp only [Int.zero_add] at this; exact this⟩
  refine ⟨A_rows od (P_grw sn rT) nn 0, (G_ct1 sn rT VV nn cs od (-1)).2.2.2, rfl, hall, hrows, rfl, hCb, fun k => ⟨hct k, ?_⟩, ?_, ?_, fun hlm => ?_, ?_⟩
  · have := (hgr 1000000000 k).2.2.2.2
    simp only [Int.zero_add] at this
    exact this
  · have h := hgr (A_ms nv oi (A_gth ki (ni : Int) gp) lm) (-1)
    have hb := A_rb_go (most := A_ms nv oi (A_gth ki (ni : Int) gp) lm) (hold := fun p ρ => A_hl (A_val (G_V sn VV) (P_grw sn rT) ρ) p (-1) cs 0) hr7 ((nn : Nat) : Int).toNat 0 (fun _ => 0, 0, 0, 0) (Int.le_refl _) (by omega)
    have h399 : A_rb ((nn : Nat) : Int).toNat ≤ 399 := by
      rcases (by omega : nn = 1 ∨ nn = 2 ∨ nn = 3) with e | e | e <;> rw [e] <;> decide
    have h3 := h.2.2.1
    simp only [Int.sub_zero] at h3
    simp only [Int.zero_add] at hb
    exact ⟨⟨h.1, Int.le_trans hb h399⟩, h.2.1, h3⟩
  · have h := hgr (A_ms nv oi (A_gth ki (ni : Int) gp) lm) (-1)
    have h5 := h.2.2.2.2
    simp only [Int.zero_add] at h5
    exact ⟨h.2.2.2.1, h5⟩
  · unfold G_cc
    by_cases hnv : nv = 1
    · rw [if_pos (Or.inr hnv)]
      unfold G_wk A_ms
      rw [if_pos hnv, htn, G_go0 m 0 _ rfl]
    · have hms : A_ms nv oi (A_gth ki (ni : Int) gp) lm = 1000000000 := by
        unfold A_ms
        rw [if_neg hnv]
        split
        · exact hlm
        · rfl
      have hW : G_wk sn rT VV nn cs od ni ki gp oi lm nv = G_ct1 sn rT VV nn cs od (-1) := by
        unfold G_wk G_ct1
        rw [hms]
      rw [hW]
      split
      · omega
      · rfl
  · have hx : ∃ x y z : Nat, x ≤ 7 ∧ y ≤ 7 ∧ z ≤ 7 ∧ A_rows od (P_grw sn rT) nn 0 = ((x * y * z : Nat) : Int) := by
      have r0 := hr7 0 (by omega) (by omega)
      rcases (by omega : nn = 1 ∨ nn = 2 ∨ nn = 3) with e | e | e
      · refine ⟨rT (sn (od 0)), 1, 1, by unfold P_grw at r0; omega, by omega, by omega, ?_⟩
        rw [e]; simp [A_rows, P_grw]
      · have r1 := hr7 1 (by omega) (by omega)
        refine ⟨rT (sn (od 0)), rT (sn (od 1)), 1, by unfold P_grw at r0; omega, by unfold P_grw at r1; omega, by omega, ?_⟩
        rw [e]; simp [A_rows, P_grw]
      · have r1 := hr7 1 (by omega) (by omega)
        have r2 := hr7 2 (by omega) (by omega)
        refine ⟨rT (sn (od 0)), rT (sn (od 1)), rT (sn (od 2)), by unfold P_grw at r0; omega, by unfold P_grw at r1; omega, by unfold P_grw at r2; omega, ?_⟩
        rw [e]; simp [A_rows, P_grw, Int.mul_assoc]
    obtain ⟨x, y, z, x7, y7, z7, he⟩ := hx
    exact G_dbl x7 y7 z7 he (by omega) hCb