/-! the law's own methods, written by wip/g1.py: 88s.tabs -/
def G_ct (w : P_Lw) (σ : P_A) (nt : Nat) (rT cT : Int → Nat) (VV : Int → Int → Int → Int) : Prop :=
  σ 1 2 = (nt : Int) ∧ nt ≤ 5 ∧ ∀ t : Nat, t < nt → (P_isT w (50 + 3 * t) ∧ σ 2 t = ((50 + 3 * t : Nat) : Int)) ∧ (σ (50 + 3 * t) 0 = (cT (t : Int) : Int) ∧ cT (t : Int) ≤ 3) ∧ (σ (50 + 3 * t) 3 = (rT (t : Int) : Int) ∧ rT (t : Int) ≤ 14) ∧ (∀ c j, 0 ≤ c → c < (cT (t : Int) : Int) → 0 ≤ j → j < (rT (t : Int) : Int) → σ (50 + 3 * t + 1) ((j * 3) + c).toNat = VV (t : Int) c j ∧ -999 ≤ VV (t : Int) c j ∧ VV (t : Int) c j ≤ 999) ∧ (∀ c, 0 ≤ c → c < (cT (t : Int) : Int) → σ (50 + 3 * t + 2) c.toNat = P_dv (fun j => VV (t : Int) c j) (rT (t : Int)) 0 0) ∧ (∀ j : Nat, -999 ≤ σ (50 + 3 * t + 1) j ∧ σ (50 + 3 * t + 1) j ≤ 999) ∧ ∀ j : Nat, 0 ≤ σ (50 + 3 * t + 2) j ∧ σ (50 + 3 * t + 2) j ≤ 14
theorem G_tab_cg {w : P_Lw} {σ σ' : P_A} {nt : Nat} {rT cT : Int → Nat} {VV : Int → Int → Int → Int} (h : ∀ a b, (a = 1 ∧ b = 2) ∨ a = 2 ∨ 50 ≤ a → σ' a b = σ a b) (hc : G_ct w σ nt rT cT VV) : G_ct w σ' nt rT cT VV := by
  obtain ⟨h1, h2, h3⟩ := hc
  refine ⟨(h _ _ (Or.inl ⟨rfl, rfl⟩)).trans h1, h2, fun t ht => ?_⟩
  obtain ⟨⟨a1, a2⟩, ⟨a3, a4⟩, ⟨a5, a6⟩, a7, a8, a9, a10⟩ := h3 t ht
  have e : ∀ a b, 50 ≤ a → σ' a b = σ a b := fun a b q => h a b (Or.inr (Or.inr q))
  refine ⟨⟨a1, (h _ _ (Or.inr (Or.inl rfl))).trans a2⟩, ⟨(e _ _ (by omega)).trans a3, a4⟩, ⟨(e _ _ (by omega)).trans a5, a6⟩, fun c j x y z u => ⟨(e _ _ (by omega)).trans (a7 c j x y z u).1, (a7 c j x y z u).2⟩, fun c x y => (e _ _ (by omega)).trans (a8 c x y), fun j => ?_, fun j => ?_⟩
  · rw [e _ _ (by omega)]; exact a9 j
  · rw [e _ _ (by omega)]; exact a10 j
theorem A_oth_ne {σ : P_A} {a b : Nat} (h : a ≠ 44) (h2 : ¬ (a = 31 ∧ b = 16)) : A_oth σ a b = σ a b := by
  unfold A_oth
  rw [P_u2_ne (by omega), P_u2_ne (by omega), P_u2_ne (by omega), P_u2_ne (by omega), P_u2_ne (by omega)]
theorem A_oth_31 {σ : P_A} : A_oth σ 31 16 = 0 := P_u2_at
theorem G_ct_i {w : P_Lw} {σ : P_A} {nt : Nat} {rT cT : Int → Nat} {VV : Int → Int → Int → Int} (hc : G_ct w σ nt rT cT VV) (t : Int) (h0 : 0 ≤ t) (h1 : t < (nt : Int)) : (P_isT w (50 + 3 * t.toNat) ∧ σ 2 t.toNat = ((50 + 3 * t.toNat : Nat) : Int)) ∧ (σ (50 + 3 * t.toNat) 0 = (cT t : Int) ∧ cT t ≤ 3) ∧ (σ (50 + 3 * t.toNat) 3 = (rT t : Int) ∧ rT t ≤ 14) ∧ (∀ c j, 0 ≤ c → c < (cT t : Int) → 0 ≤ j → j < (rT t : Int) → σ (50 + 3 * t.toNat + 1) ((j * 3) + c).toNat = VV t c j ∧ -999 ≤ VV t c j ∧ VV t c j ≤ 999) ∧ (∀ c, 0 ≤ c → c < (cT t : Int) → σ (50 + 3 * t.toNat + 2) c.toNat = P_dv (fun j => VV t c j) (rT t) 0 0) ∧ (∀ j : Nat, -999 ≤ σ (50 + 3 * t.toNat + 1) j ∧ σ (50 + 3 * t.toNat + 1) j ≤ 999) ∧ ∀ j : Nat, 0 ≤ σ (50 + 3 * t.toNat + 2) j ∧ σ (50 + 3 * t.toNat + 2) j ≤ 14 := by
  have h := hc.2.2 t.toNat (by omega)
  rw [Int.toNat_of_nonneg h0] at h
  exact h
/-- a row less -/
def G_dV (VV : Int → Int → Int → Int) (t p : Int) : Int → Int → Int → Int := fun s c j => if s = t ∧ ¬ j < p then VV s c (j + 1) else VV s c j
def G_dr (rT : Int → Nat) (t : Int) : Int → Nat := fun s => if s = t then rT s - 1 else rT s
def G_ds (σ : P_A) (rT cT : Int → Nat) (VV : Int → Int → Int → Int) (t p : Int) : P_A := A_oth (P_cv (A_rm σ (50 + 3 * t.toNat) (rT t : Int) p) (50 + 3 * t.toNat) (cT t : Int) (fun c => P_dv (G_dV VV t p t c) ((rT t : Int) - 1).toNat 0 0))
theorem G_dV_at {VV : Int → Int → Int → Int} {t p c j : Int} : G_dV VV t p t c j = if j < p then VV t c j else VV t c (j + 1) := by
  unfold G_dV
  by_cases h : j < p
  · rw [if_neg (fun q => q.2 h), if_pos h]
  · rw [if_pos ⟨rfl, h⟩, if_neg h]
theorem G_dV_ne {VV : Int → Int → Int → Int} {s t p c j : Int} (h : s ≠ t) : G_dV VV t p s c j = VV s c j := if_neg (fun q => h q.1)
theorem G_dr_at {rT : Int → Nat} {t : Int} : G_dr rT t t = rT t - 1 := if_pos rfl
theorem G_dr_ne {rT : Int → Nat} {s t : Int} (h : s ≠ t) : G_dr rT t s = rT s := if_neg h
theorem G_ds_ne {σ : P_A} {rT cT : Int → Nat} {VV : Int → Int → Int → Int} {t p : Int} {a b : Nat} (h : a ≠ 44) (h2 : ¬ (a = 31 ∧ b = 16)) (h3 : a ≠ 50 + 3 * t.toNat ∧ a ≠ 50 + 3 * t.toNat + 1 ∧ a ≠ 50 + 3 * t.toNat + 2) : G_ds σ rT cT VV t p a b = σ a b := (A_oth_ne h h2).trans (A_rem_ne h3)
theorem P_sf_rg {σ : P_A} {k : Nat} {p i : Int} (h : ∀ j : Nat, -999 ≤ σ (k + 1) j ∧ σ (k + 1) j ≤ 999) (j : Nat) : -999 ≤ P_sf σ k p i (k + 1) j ∧ P_sf σ k p i (k + 1) j ≤ 999 := by
  unfold P_sf
  split
  · split
    · exact h _
    · omega
  · exact h j
theorem G_ct_drop {w : P_Lw} {σ : P_A} {nt : Nat} {rT cT : Int → Nat} {VV : Int → Int → Int → Int} {t p : Int} (hc : G_ct w σ nt rT cT VV) (ht : 0 ≤ t ∧ t < (nt : Int)) (hp : 0 ≤ p ∧ p < (rT t : Int)) : G_ct w (G_ds σ rT cT VV t p) nt (G_dr rT t) cT (G_dV VV t p) := by
  have h5 := hc.2.1
  refine ⟨(G_ds_ne (by omega) (by omega) (by omega)).trans hc.1, h5, fun s hs => ?_⟩
  have H := hc.2.2 s hs
  by_cases e : (s : Int) = t
  · have es : s = t.toNat := by omega
    subst es
    rw [e] at H
    rw [e]
    obtain ⟨⟨a1, a2⟩, ⟨a3, a4⟩, ⟨a5, a6⟩, a7, a8, a9, a10⟩ := H
    have hrow := A_rm_row (σ := σ) (k := 50 + 3 * t.toNat) (rw := (rT t : Int)) (cl := (cT t : Int)) (p := p) (V := fun c j => VV t c j) (V' := fun c j => G_dV VV t p t c j) (fun c j x y z u => (a7 c j x y z u).1) hp.1 (by omega) (by omega) (fun c j => G_dV_at)
    refine ⟨⟨a1, (G_ds_ne (by omega) (by omega) (by omega)).trans a2⟩, ⟨?_, a4⟩, ⟨?_, by rw [G_dr_at]; omega⟩, fun c j x y z u => ⟨?_, ?_⟩, fun c x y => ?_, fun j => ?_, fun j => ?_⟩
    · refine (A_oth_ne (by omega) (by omega)).trans ((P_cv_ne (by omega)).trans ?_)
      unfold A_rm
      rw [P_u2_ne (by omega), P_sf_ne (by omega)]
      exact a3
    · refine (A_oth_ne (by omega) (by omega)).trans (A_rem_at.trans ?_)
      rw [G_dr_at]; omega
    · rw [G_dr_at] at u
      exact (A_oth_ne (by omega) (by omega)).trans ((P_cv_ne (by omega)).trans (hrow c j x y z (by omega)))
    · rw [G_dr_at] at u
      rw [G_dV_at]
      split
      · exact (a7 c j x y z (by omega)).2
      · exact (a7 c (j + 1) x y (by omega) (by omega)).2
    · refine (A_oth_ne (by omega) (by omega)).trans ((if_pos ⟨rfl, by omega⟩).trans ?_)
      rw [Int.toNat_of_nonneg x, G_dr_at]
      have : ((rT t : Int) - 1).toNat = rT t - 1 := by omega
      rw [this]
    · unfold G_ds
      rw [A_oth_ne (by omega) (by omega), P_cv_ne (by omega)]
      unfold A_rm
      rw [P_u2_ne (by omega)]
      exact P_sf_rg a9 j
    · unfold G_ds
      rw [A_oth_ne (by omega) (by omega)]
      unfold P_cv
      split
      · have := P_dv_rg (f := G_dV VV t p t (j : Int)) ((rT t : Int) - 1).toNat 0 0
        show 0 ≤ P_dv (G_dV VV t p t (j : Int)) ((rT t : Int) - 1).toNat 0 0 ∧ P_dv (G_dV VV t p t (j : Int)) ((rT t : Int) - 1).toNat 0 0 ≤ 14
        omega
      · unfold A_rm
        rw [P_u2_ne (by omega), P_sf_ne (by omega)]
        exact a10 j
  · obtain ⟨⟨a1, a2⟩, ⟨a3, a4⟩, ⟨a5, a6⟩, a7, a8, a9, a10⟩ := H
    have hne : s ≠ t.toNat := by omega
    have ee : ∀ a b, a = 50 + 3 * s ∨ a = 50 + 3 * s + 1 ∨ a = 50 + 3 * s + 2 → G_ds σ rT cT VV t p a b = σ a b := fun a b q => G_ds_ne (by omega) (by omega) (by omega)
    rw [G_dr_ne e]
    refine ⟨⟨a1, (G_ds_ne (by omega) (by omega) (by omega)).trans a2⟩, ⟨(ee _ _ (by omega)).trans a3, a4⟩, ⟨(ee _ _ (by omega)).trans a5, a6⟩, fun c j x y z u => ?_, fun c x y => ?_, fun j => ?_, fun j => ?_⟩
    · rw [G_dV_ne e]; exact ⟨(ee _ _ (by omega)).trans (a7 c j x y z u).1, (a7 c j x y z u).2⟩
    · refine (ee _ _ (by omega)).trans ((a8 c x y).trans ?_)
      congr 1
      funext j
      exact (G_dV_ne e).symm
    · rw [ee _ _ (by omega)]; exact a9 j
    · rw [ee _ _ (by omega)]; exact a10 j
theorem G_s_drop {w : P_Lw} (hw : P_Cw w) {d : Nat} {Q : P_R → P_A → Prop} {σ : P_A} {nt : Nat} {rT cT : Int → Nat} {VV : Int → Int → Int → Int} {t p : Int} (hc : G_ct w σ nt rT cT VV) (ht : 0 ≤ t ∧ t < (nt : Int)) (hp : 0 ≤ p ∧ p < (rT t : Int)) (q : Q (.inl (some (P_z ((rT t : Int) - 1)))) (G_ds σ rT cT VV t p)) : P_aw w (d + 6) 140 0 [.ref (w.2.2 0), P_z t, P_z p, P_un] [] σ Q := by
  obtain ⟨⟨a1, a2⟩, ⟨a3, a4⟩, ⟨a5, a6⟩, a7, a8, a9, a10⟩ := G_ct_i hc t ht.1 ht.2
  have h5 := hc.2.1
  exact s_drop hw a1 (rw := (rT t : Int)) (cl := (cT t : Int)) (V := fun c j => VV t c j) (V' := G_dV VV t p t) a5 a3 (fun c j x y z u => (a7 c j x y z u).1) (fun c j x y z u => by have := (a7 c j x y z u).2; omega) (by omega) hc.1 (by omega) a2 (by omega) (fun c j => G_dV_at) (fun c j x y z u => by
    rw [G_dV_at]
    split
    · have := (a7 c j x y z (by omega)).2; omega
    · have := (a7 c (j + 1) x y (by omega) (by omega)).2; omega) hp q
/-- a row more -/
def G_aV (VV : Int → Int → Int → Int) (rT : Int → Nat) (t a b e : Int) : Int → Int → Int → Int := fun s c j => if s = t ∧ j = (rT t : Int) then (if c = 0 then a else if c = 1 then b else e) else VV s c j
def G_ar (rT : Int → Nat) (t : Int) : Int → Nat := fun s => if s = t then rT s + 1 else rT s
def G_as (σ : P_A) (rT cT : Int → Nat) (VV : Int → Int → Int → Int) (t a b e : Int) : P_A := A_oth (P_cv (P_w3 σ (50 + 3 * t.toNat) (rT t : Int) a b e) (50 + 3 * t.toNat) (cT t : Int) (fun c => P_dv (G_aV VV rT t a b e t c) ((rT t : Int) + 1).toNat 0 0))
theorem G_aV_at {VV : Int → Int → Int → Int} {rT : Int → Nat} {t a b e c j : Int} : G_aV VV rT t a b e t c j = if j = (rT t : Int) then (if c = 0 then a else if c = 1 then b else e) else VV t c j := by
  unfold G_aV
  by_cases h : j = (rT t : Int)
  · rw [if_pos ⟨rfl, h⟩, if_pos h]
  · rw [if_neg (fun q => h q.2), if_neg h]
theorem G_aV_ne {VV : Int → Int → Int → Int} {rT : Int → Nat} {s t a b e c j : Int} (h : s ≠ t) : G_aV VV rT t a b e s c j = VV s c j := if_neg (fun q => h q.1)
theorem G_ar_at {rT : Int → Nat} {t : Int} : G_ar rT t t = rT t + 1 := if_pos rfl
theorem G_ar_ne {rT : Int → Nat} {s t : Int} (h : s ≠ t) : G_ar rT t s = rT s := if_neg h
theorem G_as_ne {σ : P_A} {rT cT : Int → Nat} {VV : Int → Int → Int → Int} {t a b e : Int} {x y : Nat} (h : x ≠ 44) (h2 : ¬ (x = 31 ∧ y = 16)) (h3 : x ≠ 50 + 3 * t.toNat ∧ x ≠ 50 + 3 * t.toNat + 1 ∧ x ≠ 50 + 3 * t.toNat + 2) : G_as σ rT cT VV t a b e x y = σ x y := (A_oth_ne h h2).trans (A_add_ne h3)
theorem P_w3_rg {σ : P_A} {k : Nat} {rw a b e : Int} (hab : (-999 ≤ a ∧ a ≤ 999) ∧ (-999 ≤ b ∧ b ≤ 999) ∧ (-999 ≤ e ∧ e ≤ 999)) (h : ∀ j : Nat, -999 ≤ σ (k + 1) j ∧ σ (k + 1) j ≤ 999) (j : Nat) : -999 ≤ P_w3 σ k rw a b e (k + 1) j ∧ P_w3 σ k rw a b e (k + 1) j ≤ 999 := by
  unfold P_w3
  rw [P_u2_ne (by omega)]
  by_cases e1 : j = ((rw * 3) + 2).toNat
  · rw [e1, P_u2_at]; exact hab.2.2
  · rw [P_u2_ne (by omega)]
    by_cases e2 : j = ((rw * 3) + 1).toNat
    · rw [e2, P_u2_at]; exact hab.2.1
    · rw [P_u2_ne (by omega)]
      by_cases e3 : j = (rw * 3).toNat
      · rw [e3, P_u2_at]; exact hab.1
      · rw [P_u2_ne (by omega)]; exact h j
theorem G_ct_row {w : P_Lw} {σ : P_A} {nt : Nat} {rT cT : Int → Nat} {VV : Int → Int → Int → Int} {t a b e : Int} (hc : G_ct w σ nt rT cT VV) (ht : 0 ≤ t ∧ t < (nt : Int)) (hr : (rT t : Int) ≤ 13) (hab : (-999 ≤ a ∧ a ≤ 999) ∧ (-999 ≤ b ∧ b ≤ 999) ∧ (-999 ≤ e ∧ e ≤ 999)) : G_ct w (G_as σ rT cT VV t a b e) nt (G_ar rT t) cT (G_aV VV rT t a b e) := by
  have h5 := hc.2.1
  refine ⟨(G_as_ne (by omega) (by omega) (by omega)).trans hc.1, h5, fun s hs => ?_⟩
  have H := hc.2.2 s hs
  by_cases q : (s : Int) = t
  · have es : s = t.toNat := by omega
    subst es
    rw [q] at H
    rw [q]
    obtain ⟨⟨a1, a2⟩, ⟨a3, a4⟩, ⟨a5, a6⟩, a7, a8, a9, a10⟩ := H
    have hrow := P_w3_row (σ := σ) (k := 50 + 3 * t.toNat) (rw := (rT t : Int)) (cl := (cT t : Int)) (a := a) (b := b) (e := e) (V := fun c j => VV t c j) (V' := fun c j => G_aV VV rT t a b e t c j) (fun c j x y z u => (a7 c j x y z u).1) (by omega) (by omega) (fun c j => G_aV_at)
    refine ⟨⟨a1, (G_as_ne (by omega) (by omega) (by omega)).trans a2⟩, ⟨?_, a4⟩, ⟨?_, by rw [G_ar_at]; omega⟩, fun c j x y z u => ⟨?_, ?_⟩, fun c x y => ?_, fun j => ?_, fun j => ?_⟩
    · refine (A_oth_ne (by omega) (by omega)).trans ((P_cv_ne (by omega)).trans ?_)
      unfold P_w3
      rw [P_u2_ne (by omega), P_u2_ne (by omega), P_u2_ne (by omega), P_u2_ne (by omega)]
      exact a3
    · refine (A_oth_ne (by omega) (by omega)).trans (A_add_at.trans ?_)
      rw [G_ar_at]; omega
    · rw [G_ar_at] at u
      exact (A_oth_ne (by omega) (by omega)).trans ((P_cv_ne (by omega)).trans (hrow c j x y z (by omega)))
    · rw [G_ar_at] at u
      rw [G_aV_at]
      split
      · (repeat' split) <;> omega
      · exact (a7 c j x y z (by omega)).2
    · refine (A_oth_ne (by omega) (by omega)).trans ((if_pos ⟨rfl, by omega⟩).trans ?_)
      rw [Int.toNat_of_nonneg x, G_ar_at]
      have : ((rT t : Int) + 1).toNat = rT t + 1 := by omega
      rw [this]
    · unfold G_as
      rw [A_oth_ne (by omega) (by omega), P_cv_ne (by omega)]
      exact P_w3_rg hab a9 j
    · unfold G_as
      rw [A_oth_ne (by omega) (by omega)]
      unfold P_cv
      split
      · have := P_dv_rg (f := G_aV VV rT t a b e t (j : Int)) ((rT t : Int) + 1).toNat 0 0
        show 0 ≤ P_dv (G_aV VV rT t a b e t (j : Int)) ((rT t : Int) + 1).toNat 0 0 ∧ P_dv (G_aV VV rT t a b e t (j : Int)) ((rT t : Int) + 1).toNat 0 0 ≤ 14
        omega
      · unfold P_w3
        rw [P_u2_ne (by omega), P_u2_ne (by omega), P_u2_ne (by omega), P_u2_ne (by omega)]
        exact a10 j
  · obtain ⟨⟨a1, a2⟩, ⟨a3, a4⟩, ⟨a5, a6⟩, a7, a8, a9, a10⟩ := H
    have hne : s ≠ t.toNat := by omega
    have ee : ∀ x y, x = 50 + 3 * s ∨ x = 50 + 3 * s + 1 ∨ x = 50 + 3 * s + 2 → G_as σ rT cT VV t a b e x y = σ x y := fun x y z => G_as_ne (by omega) (by omega) (by omega)
    rw [G_ar_ne q]
    refine ⟨⟨a1, (G_as_ne (by omega) (by omega) (by omega)).trans a2⟩, ⟨(ee _ _ (by omega)).trans a3, a4⟩, ⟨(ee _ _ (by omega)).trans a5, a6⟩, fun c j x y z u => ?_, fun c x y => ?_, fun j => ?_, fun j => ?_⟩
    · rw [G_aV_ne q]; exact ⟨(ee _ _ (by omega)).trans (a7 c j x y z u).1, (a7 c j x y z u).2⟩
    · refine (ee _ _ (by omega)).trans ((a8 c x y).trans ?_)
      congr 1
      funext j
      exact (G_aV_ne q).symm
    · rw [ee _ _ (by omega)]; exact a9 j
    · rw [ee _ _ (by omega)]; exact a10 j
theorem G_s_row {w : P_Lw} (hw : P_Cw w) {d : Nat} {Q : P_R → P_A → Prop} {σ : P_A} {nt : Nat} {rT cT : Int → Nat} {VV : Int → Int → Int → Int} {t a b e : Int} (hc : G_ct w σ nt rT cT VV) (ht : 0 ≤ t ∧ t < (nt : Int)) (hr : (rT t : Int) ≤ 13) (hab : (-999 ≤ a ∧ a ≤ 999) ∧ (-999 ≤ b ∧ b ≤ 999) ∧ (-999 ≤ e ∧ e ≤ 999)) (q : Q (.inl (some (P_z ((rT t : Int) + 1)))) (G_as σ rT cT VV t a b e)) : P_aw w (d + 6) 139 0 [.ref (w.2.2 0), P_z t, P_z a, P_z b, P_z e, P_un, P_un] [] σ Q := by
  obtain ⟨⟨a1, a2⟩, ⟨a3, a4⟩, ⟨a5, a6⟩, a7, a8, a9, a10⟩ := G_ct_i hc t ht.1 ht.2
  have h5 := hc.2.1
  exact s_row hw a1 (rw := (rT t : Int)) (cl := (cT t : Int)) (V := fun c j => VV t c j) (V' := G_aV VV rT t a b e t) a5 a3 (fun c j x y z u => (a7 c j x y z u).1) (fun c j x y z u => by have := (a7 c j x y z u).2; omega) (by omega) hc.1 (by omega) a2 (by omega) (fun c j => G_aV_at) (fun c j x y z u => by
    rw [G_aV_at]
    (repeat' split) <;> first | omega | (have := (a7 c j x y z (by omega)).2; omega)) hr hab q