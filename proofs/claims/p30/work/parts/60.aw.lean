/-! THE CLASS'S CELLS, by numbers of their own, holding whole numbers: runs of the pure machine over them -/
/-- what a cell is: an object (its kind; its fields: none a number, some none null, some (some k) the cell k); a row of so many numbers; a row of so many references (cells' numbers, none below 0); a row of references that stay -/
abbrev P_Sh : Type := (Nat × List (Option (Option Nat))) ⊕ Nat ⊕ (Nat × Nat) ⊕ (Nat × List Nat)
/-- what the cells hold: by cell and place -/
abbrev P_A : Type := Nat → Nat → Int
abbrev P_z (x : Int) : Value := .int (Int32.ofInt x)
abbrev P_zl (x : Int) : Value := .long (Int64.ofInt x)
/-- the cells' kinds; which of them are spoken of; where they lie -/
abbrev P_Lw : Type := (Nat → P_Sh) × (Nat → Bool) × (Nat → Nat)
def P_fld (pos : Nat → Nat) (s : Nat → Int) : List (Option (Option Nat)) → Nat → List Value
  | [], _ => []
  | none :: r, f => P_z (s f) :: P_fld pos s r (f + 1)
  | some none :: r, f => .null :: P_fld pos s r (f + 1)
  | some (some k) :: r, f => .ref (pos k) :: P_fld pos s r (f + 1)
def P_cel (w : P_Lw) (σ : P_A) (k : Nat) : P_E := match w.1 k with
  | .inl (ci, fs) => .inr (ci, P_fld w.2.2 (σ k) fs 0)
  | .inr (.inl n) => .inl (0, n, .inl (fun j => Int32.ofInt (σ k j)))
  | .inr (.inr (.inl (ty, n))) => .inl (ty, n, .inr (.inr (.inr (.inr (fun j => if σ k j < 0 then none else some (w.2.2 (σ k j).toNat))))))
  | .inr (.inr (.inr (ty, ks))) => .inl (ty, ks.length, .inr (.inr (.inr (.inr (fun j => (ks[j]?).map w.2.2)))))
def P_Wk (w : P_Lw) (σ : P_A) (h : P_H) : Prop :=
  (∀ k, w.2.1 k = true → 2 ≤ w.2.2 k ∧ h.1[w.2.2 k]? = some (P_cel w σ k)) ∧ (∀ j k, w.2.1 j = true → w.2.1 k = true → w.2.2 j = w.2.2 k → j = k) ∧ h.1[1]? = some (.inl (0, 18, .inl P_ord))
/-- what stays beside them -/
def P_Fr (w : P_Lw) (h h' : P_H) : Prop := h'.1.length = h.1.length ∧ h'.2 = h.2 ∧ ∀ a, (∀ k, w.2.1 k = true → a ≠ w.2.2 k) → h'.1[a]? = h.1[a]?
def P_aw (w : P_Lw) (d y pc : Nat) (L st : List Value) (σ : P_A) (Q : P_R → P_A → Prop) : Prop :=
  ∀ h, P_Wk w σ h → P_wp P_Y0 d y (pc, L, st, h) (fun r h' => ∃ σ', P_Wk w σ' h' ∧ P_Fr w h h' ∧ Q r σ')
/-- one place is written -/
def P_u2 (σ : P_A) (k f : Nat) (v : Int) : P_A := fun a b => if a = k ∧ b = f then v else σ a b
theorem P_u2_at {σ : P_A} {k f : Nat} {v : Int} : P_u2 σ k f v k f = v := if_pos ⟨rfl, rfl⟩
theorem P_u2_ne {σ : P_A} {k f a b : Nat} {v : Int} (h : ¬ (a = k ∧ b = f)) : P_u2 σ k f v a b = σ a b := if_neg h
theorem P_Fr_rf {w : P_Lw} {h : P_H} : P_Fr w h h := ⟨rfl, rfl, fun _ _ => rfl⟩
theorem P_Fr_tr {w : P_Lw} {h h1 h2 : P_H} (a : P_Fr w h h1) (b : P_Fr w h1 h2) : P_Fr w h h2 := ⟨b.1.trans a.1, b.2.1.trans a.2.1, fun q hq => (b.2.2 q hq).trans (a.2.2 q hq)⟩
/-- a whole number that an int can be -/
def P_rg (x : Int) : Prop := -2147483648 ≤ x ∧ x ≤ 2147483647
def P_rgl (x : Int) : Prop := -9223372036854775808 ≤ x ∧ x ≤ 9223372036854775807
theorem P_toInt {x : Int} (h : P_rg x) : (Int32.ofInt x).toInt = x := Int32.toInt_ofInt_of_le (by have := h.1; omega) (by have := h.2; omega)
theorem P_toIntl {x : Int} (h : P_rgl x) : (Int64.ofInt x).toInt = x := Int64.toInt_ofInt_of_le (by have := h.1; omega) (by have := h.2; omega)
def P_ci (c : ClassFile.Cond) (x y : Int) : Bool := match c with
  | .eq => decide (x = y)
  | .ne => decide (¬ x = y)
  | .lt => decide (x < y)
  | .ge => decide (y ≤ x)
  | .gt => decide (y < x)
  | .le => decide (x ≤ y)
theorem P_cc_ci {c : ClassFile.Cond} {x y : Int} (hx : P_rg x) (hy : P_rg y) : P_cc c (Int32.ofInt x) (Int32.ofInt y) = P_ci c x y := by
  cases c <;> simp only [P_cc, P_ci, Int32.lt_iff_toInt_lt, Int32.le_iff_toInt_le, ← Int32.toInt_inj, P_toInt hx, P_toInt hy]
theorem P_ci_eqt {x y : Int} (h : x = y) : P_ci .eq x y = true := decide_eq_true h
theorem P_ci_eqf {x y : Int} (h : ¬ x = y) : P_ci .eq x y = false := decide_eq_false h
theorem P_ci_net {x y : Int} (h : ¬ x = y) : P_ci .ne x y = true := decide_eq_true h
theorem P_ci_nef {x y : Int} (h : x = y) : P_ci .ne x y = false := decide_eq_false (fun q => q h)
theorem P_ci_ltt {x y : Int} (h : x < y) : P_ci .lt x y = true := decide_eq_true h
theorem P_ci_ltf {x y : Int} (h : y ≤ x) : P_ci .lt x y = false := decide_eq_false (by omega)
theorem P_ci_get {x y : Int} (h : y ≤ x) : P_ci .ge x y = true := decide_eq_true h
theorem P_ci_gef {x y : Int} (h : x < y) : P_ci .ge x y = false := decide_eq_false (by omega)
theorem P_ci_gtt {x y : Int} (h : y < x) : P_ci .gt x y = true := decide_eq_true h
theorem P_ci_gtf {x y : Int} (h : x ≤ y) : P_ci .gt x y = false := decide_eq_false (by omega)
theorem P_ci_let {x y : Int} (h : x ≤ y) : P_ci .le x y = true := decide_eq_true h
theorem P_ci_lef {x y : Int} (h : y < x) : P_ci .le x y = false := decide_eq_false (by omega)
theorem P_ixz {i : Int} {n : Nat} (h0 : 0 ≤ i) (h1 : i < n) (hn : n ≤ 65536) : P_ix (Int32.ofInt i) n = some i.toNat := by
  have hr : P_rg i := ⟨by omega, by omega⟩
  have hc : (Int32.ofInt i).toNatClampNeg = i.toNat := Int32.toNatClampNeg_ofInt_of_le (by omega) (by omega)
  unfold P_ix
  rw [if_neg, hc]
  rw [hc, Int32.lt_iff_toInt_lt, P_toInt hr]
  rintro (q | q)
  · have : (0 : Int32).toInt = 0 := by decide
    omega
  · omega
section FLD
theorem P_fld_len {pos : Nat → Nat} {s : Nat → Int} : ∀ {fs : List (Option (Option Nat))} {f : Nat}, (P_fld pos s fs f).length = fs.length
  | [], _ => rfl
  | none :: r, f => by simp only [P_fld, List.length_cons, P_fld_len (fs := r)]
  | some none :: r, f => by simp only [P_fld, List.length_cons, P_fld_len (fs := r)]
  | some (some k) :: r, f => by simp only [P_fld, List.length_cons, P_fld_len (fs := r)]
theorem P_fld_at {pos : Nat → Nat} {s : Nat → Int} : ∀ {fs : List (Option (Option Nat))} {f j : Nat}, (P_fld pos s fs f)[j]? = (fs[j]?).map (fun x => match x with
    | none => P_z (s (f + j))
    | some none => Value.null
    | some (some k) => Value.ref (pos k))
  | [], f, j => rfl
  | x :: r, f, 0 => by rcases x with _ | _ | k <;> rfl
  | x :: r, f, j + 1 => by
    have := P_fld_at (pos := pos) (s := s) (fs := r) (f := f + 1) (j := j)
    rw [show f + 1 + j = f + (j + 1) by omega] at this
    rcases x with _ | _ | k <;> simpa only [P_fld, List.getElem?_cons_succ] using this
theorem P_fld_set {pos : Nat → Nat} {s : Nat → Int} {v : Int} : ∀ {fs : List (Option (Option Nat))} {f j : Nat}, fs[j]? = some none → (P_fld pos s fs f).set j (P_z v) = P_fld pos (fun b => if b = f + j then v else s b) fs f := by
  intro fs f j hj
  apply List.ext_getElem?
  intro i
  rw [List.getElem?_set, P_fld_at, P_fld_at, P_fld_len]
  by_cases e : j = i
  · subst e
    have hl : j < fs.length := (List.getElem?_eq_some_iff.mp hj).1
    rw [if_pos rfl, if_pos hl, hj]
    simp
  · rw [if_neg e]
    cases fs[i]? with
    | none => rfl
    | some x =>
      rcases x with _ | _ | k
      · simp only [Option.map_some, show ¬ f + i = f + j by omega, if_false]
      · rfl
      · rfl
end FLD
section AW
variable {w : P_Lw} {d y pc : Nat} {rt : Option FieldType} {hs : List (Nat × Nat × Nat × Nat × Nat)} {nx : Nat} {r1 : Int} {r2 : Nat} {kN kT : List Nat} {L L' st st' : List Value} {σ : P_A} {Q : P_R → P_A → Prop}
theorem P_aw_mono {Q' : P_R → P_A → Prop} (hw : P_aw w d y pc L st σ Q) (hq : ∀ r s, Q r s → Q' r s) : P_aw w d y pc L st σ Q' := fun h hW => P_wp_mono (hw h hW) (fun _ _ ⟨s, a, b, c⟩ => ⟨s, a, b, hq _ _ c⟩)
theorem P_aw_op {i : Instr} (hi : P_in P_Y0 y pc rt hs i nx r1 r2 kN kT) (ho : P_op i r1 r2 L st = some (L', st')) (k : P_aw w d y nx (P_kill L' kN) st' σ Q) : P_aw w d y pc L st σ Q := by
  intro h hW
  refine P_wp_step hi (fun ex => ?_) (k h hW)
  unfold P_do
  rw [ho]
theorem P_aw_brt {i : Instr} (hi : P_in P_Y0 y pc rt hs i nx r1 r2 kN kT) (hb : P_br i st = some (true, st')) (k : P_aw w d y r2 (P_kill L kT) st' σ Q) : P_aw w d y pc L st σ Q := by
  intro h hW
  refine P_wp_step hi (fun ex => ?_) (k h hW)
  unfold P_do
  rw [P_br_none hb]; simp only; rw [hb]
theorem P_aw_brf {i : Instr} (hi : P_in P_Y0 y pc rt hs i nx r1 r2 kN kT) (hb : P_br i st = some (false, st')) (k : P_aw w d y nx (P_kill L kN) st' σ Q) : P_aw w d y pc L st σ Q := by
  intro h hW
  refine P_wp_step hi (fun ex => ?_) (k h hW)
  unfold P_do
  rw [P_br_none hb]; simp only; rw [hb]
theorem P_aw_ict {c : ClassFile.Cond} {o : Int} {a b : Int} (hi : P_in P_Y0 y pc rt hs (.if_icmp c o) nx r1 r2 kN kT) (ha : P_rg a) (hb : P_rg b) (hj : P_ci c a b = true) (k : P_aw w d y r2 (P_kill L kT) st σ Q) : P_aw w d y pc L (P_z b :: P_z a :: st) σ Q :=
  P_aw_brt hi (by simp only [P_br, P_cc_ci ha hb, hj]) k
theorem P_aw_icf {c : ClassFile.Cond} {o : Int} {a b : Int} (hi : P_in P_Y0 y pc rt hs (.if_icmp c o) nx r1 r2 kN kT) (ha : P_rg a) (hb : P_rg b) (hj : P_ci c a b = false) (k : P_aw w d y nx (P_kill L kN) st σ Q) : P_aw w d y pc L (P_z b :: P_z a :: st) σ Q :=
  P_aw_brf hi (by simp only [P_br, P_cc_ci ha hb, hj]) k
theorem P_aw_izt {c : ClassFile.Cond} {o : Int} {a : Int} (hi : P_in P_Y0 y pc rt hs (.ifCond c o) nx r1 r2 kN kT) (ha : P_rg a) (hj : P_ci c a 0 = true) (k : P_aw w d y r2 (P_kill L kT) st σ Q) : P_aw w d y pc L (P_z a :: st) σ Q :=
  P_aw_brt hi (by simp only [P_br, show (0 : Int32) = Int32.ofInt 0 from rfl, P_cc_ci ha (show P_rg 0 from ⟨by decide, by decide⟩), hj]) k
theorem P_aw_izf {c : ClassFile.Cond} {o : Int} {a : Int} (hi : P_in P_Y0 y pc rt hs (.ifCond c o) nx r1 r2 kN kT) (ha : P_rg a) (hj : P_ci c a 0 = false) (k : P_aw w d y nx (P_kill L kN) st σ Q) : P_aw w d y pc L (P_z a :: st) σ Q :=
  P_aw_brf hi (by simp only [P_br, show (0 : Int32) = Int32.ofInt 0 from rfl, P_cc_ci ha (show P_rg 0 from ⟨by decide, by decide⟩), hj]) k
theorem P_aw_goto {o : Int} (hi : P_in P_Y0 y pc rt hs (.goto o) nx r1 r2 kN kT) (k : P_aw w d y r2 (P_kill L kT) st σ Q) : P_aw w d y pc L st σ Q := P_aw_brt hi rfl k
/-- what reads or writes the cells -/
theorem P_aw_hp {i : Instr} {σ' : P_A} (hi : P_in P_Y0 y pc rt hs i nx r1 r2 kN kT) (ho : P_op i r1 r2 L st = none) (hb : P_br i st = none) (hh : ∀ h, P_Wk w σ h → ∃ h', P_hp P_Y0.1 P_Y0.2.1 i r1 r2 st h = some (st', h') ∧ P_Wk w σ' h' ∧ P_Fr w h h') (k : P_aw w d y nx (P_kill L kN) st' σ' Q) : P_aw w d y pc L st σ Q := by
  intro h hW
  obtain ⟨h', e, hW', hF⟩ := hh h hW
  refine P_wp_step hi (fun ex => ?_) (P_wp_mono (k h' hW') (fun r h2 ⟨s2, q1, q2, q3⟩ => ⟨s2, q1, P_Fr_tr hF q2, q3⟩))
  unfold P_do
  rw [ho]; simp only; rw [hb]; simp only; rw [e]
theorem P_Wk_at {h : P_H} (hW : P_Wk w σ h) {k : Nat} (hl : w.2.1 k = true) : 2 ≤ w.2.2 k ∧ h.1[w.2.2 k]? = some (P_cel w σ k) := hW.1 k hl
theorem P_cel_o {k ci : Nat} {fs : List (Option (Option Nat))} (hs : w.1 k = .inl (ci, fs)) : P_cel w σ k = .inr (ci, P_fld w.2.2 (σ k) fs 0) := by unfold P_cel; rw [hs]
theorem P_cel_a {k n : Nat} (hs : w.1 k = .inr (.inl n)) : P_cel w σ k = .inl (0, n, .inl (fun j => Int32.ofInt (σ k j))) := by unfold P_cel; rw [hs]
theorem P_cel_r {k ty n : Nat} (hs : w.1 k = .inr (.inr (.inl (ty, n)))) : P_cel w σ k = .inl (ty, n, .inr (.inr (.inr (.inr (fun j => if σ k j < 0 then none else some (w.2.2 (σ k j).toNat)))))) := by unfold P_cel; rw [hs]
theorem P_cel_c {k ty : Nat} {ks : List Nat} (hs : w.1 k = .inr (.inr (.inr (ty, ks)))) : P_cel w σ k = .inl (ty, ks.length, .inr (.inr (.inr (.inr (fun j => (ks[j]?).map w.2.2))))) := by unfold P_cel; rw [hs]
/-- a cell is written -/
theorem P_Wk_set {h : P_H} {σ' : P_A} {k : Nat} (hW : P_Wk w σ h) (hl : w.2.1 k = true) (ho : ∀ j, j ≠ k → σ' j = σ j) : P_Wk w σ' (P_set h (w.2.2 k) (P_cel w σ' k)) ∧ P_Fr w h (P_set h (w.2.2 k) (P_cel w σ' k)) := by
  obtain ⟨h2, hk⟩ := hW.1 k hl
  have hlt : w.2.2 k < h.1.length := (List.getElem?_eq_some_iff.mp hk).1
  refine ⟨⟨fun j hj => ?_, hW.2.1, ?_⟩, ?_, rfl, fun a ha => ?_⟩
  · obtain ⟨g1, g2⟩ := hW.1 j hj
    refine ⟨g1, ?_⟩
    simp only [P_set, List.getElem?_set]
    by_cases ej : j = k
    · subst ej
      rw [if_pos rfl, if_pos hlt]
    · rw [if_neg (fun q => ej (hW.2.1 j k hj hl q.symm)), g2]
      have : P_cel w σ' j = P_cel w σ j := by unfold P_cel; rw [ho j ej]
      rw [this]
  · simp only [P_set, List.getElem?_set]
    rw [if_neg (by omega)]
    exact hW.2.2
  · simp only [P_set, List.length_set]
  · simp only [P_set, List.getElem?_set]
    rw [if_neg (fun q => ha k hl q.symm)]
theorem P_u2_row {k f : Nat} {v : Int} : ∀ j, j ≠ k → P_u2 σ k f v j = σ j := fun j hj => by
  funext b
  exact P_u2_ne (fun q => hj q.1)
theorem P_u2_self {k f : Nat} {v : Int} : P_u2 σ k f v k = fun b => if b = f then v else σ k b := by
  funext b
  unfold P_u2
  by_cases e : b = f
  · rw [if_pos ⟨rfl, e⟩, if_pos e]
  · rw [if_neg (fun q => e q.2), if_neg e]
section OBJ
variable {k ci : Nat} {fs : List (Option (Option Nat))} {idx : Nat}
theorem P_aw_get (hi : P_in P_Y0 y pc rt hs (.getfield idx) nx r1 r2 kN kT) (hl : w.2.1 k = true) (hs' : w.1 k = .inl (ci, fs)) (hz : P_subt r1.toNat ci = true) (hf : fs[r2]? = some none) (kk : P_aw w d y nx (P_kill L kN) (P_z (σ k r2) :: st) σ Q) : P_aw w d y pc L (.ref (w.2.2 k) :: st) σ Q := by
  refine P_aw_hp hi rfl rfl (fun h hW => ⟨h, ?_, hW, P_Fr_rf⟩) kk
  obtain ⟨g1, g2⟩ := hW.1 k hl
  rw [P_cel_o hs'] at g2
  simp only [P_hp, g2]
  rw [if_pos ⟨g1, hz⟩, P_fld_at, hf]
  simp only [Option.map_some, Nat.zero_add]
theorem P_aw_getv {v : Int} (hi : P_in P_Y0 y pc rt hs (.getfield idx) nx r1 r2 kN kT) (hl : w.2.1 k = true) (hs' : w.1 k = .inl (ci, fs)) (hz : P_subt r1.toNat ci = true) (hf : fs[r2]? = some none) (hv : σ k r2 = v) (kk : P_aw w d y nx (P_kill L kN) (P_z v :: st) σ Q) : P_aw w d y pc L (.ref (w.2.2 k) :: st) σ Q := by
  subst hv
  exact P_aw_get hi hl hs' hz hf kk
theorem P_aw_getR {j : Nat} (hi : P_in P_Y0 y pc rt hs (.getfield idx) nx r1 r2 kN kT) (hl : w.2.1 k = true) (hs' : w.1 k = .inl (ci, fs)) (hz : P_subt r1.toNat ci = true) (hf : fs[r2]? = some (some (some j))) (kk : P_aw w d y nx (P_kill L kN) (.ref (w.2.2 j) :: st) σ Q) : P_aw w d y pc L (.ref (w.2.2 k) :: st) σ Q := by
  refine P_aw_hp hi rfl rfl (fun h hW => ⟨h, ?_, hW, P_Fr_rf⟩) kk
  obtain ⟨g1, g2⟩ := hW.1 k hl
  rw [P_cel_o hs'] at g2
  simp only [P_hp, g2]
  rw [if_pos ⟨g1, hz⟩, P_fld_at, hf]
  simp only [Option.map_some]
theorem P_aw_put {v : Int} (hi : P_in P_Y0 y pc rt hs (.putfield idx) nx r1 r2 kN kT) (hl : w.2.1 k = true) (hs' : w.1 k = .inl (ci, fs)) (hz : P_subt r1.toNat ci = true) (hf : fs[r2]? = some none) (ht : P_fits (P_Z0.2.2 ci r2) (P_z v) = true) (kk : P_aw w d y nx (P_kill L kN) st (P_u2 σ k r2 v) Q) : P_aw w d y pc L (P_z v :: .ref (w.2.2 k) :: st) σ Q := by
  refine P_aw_hp (σ' := P_u2 σ k r2 v) hi rfl rfl (fun h hW => ?_) kk
  obtain ⟨g1, g2⟩ := hW.1 k hl
  rw [P_cel_o hs'] at g2
  have e : P_cel w (P_u2 σ k r2 v) k = .inr (ci, (P_fld w.2.2 (σ k) fs 0).set r2 (P_z v)) := by
    rw [P_cel_o hs', P_fld_set hf, P_u2_self]
    simp only [Nat.zero_add]
  refine ⟨P_set h (w.2.2 k) (P_cel w (P_u2 σ k r2 v) k), ?_, P_Wk_set hW hl P_u2_row⟩
  simp only [P_hp, g2]
  rw [if_pos ⟨g1, hz, ht, by rw [P_fld_len]; exact (List.getElem?_eq_some_iff.mp hf).1⟩, e]
theorem P_aw_ald {n : Nat} {i : Int} (hi : P_in P_Y0 y pc rt hs .iaload nx r1 r2 kN kT) (hl : w.2.1 k = true) (hs' : w.1 k = .inr (.inl n)) (h0 : 0 ≤ i) (h1 : i < n) (hn : n ≤ 65536) (kk : P_aw w d y nx (P_kill L kN) (P_z (σ k i.toNat) :: st) σ Q) : P_aw w d y pc L (P_z i :: .ref (w.2.2 k) :: st) σ Q := by
  refine P_aw_hp hi rfl rfl (fun h hW => ⟨h, ?_, hW, P_Fr_rf⟩) kk
  obtain ⟨g1, g2⟩ := hW.1 k hl
  rw [P_cel_a hs'] at g2
  simp only [P_hp, g2, P_ixz h0 h1 hn, Option.bind_some]
theorem P_aw_aldv {n : Nat} {i v : Int} (hi : P_in P_Y0 y pc rt hs .iaload nx r1 r2 kN kT) (hl : w.2.1 k = true) (hs' : w.1 k = .inr (.inl n)) (h0 : 0 ≤ i) (h1 : i < n) (hn : n ≤ 65536) (hv : σ k i.toNat = v) (kk : P_aw w d y nx (P_kill L kN) (P_z v :: st) σ Q) : P_aw w d y pc L (P_z i :: .ref (w.2.2 k) :: st) σ Q := by
  subst hv
  exact P_aw_ald hi hl hs' h0 h1 hn kk
theorem P_aw_ast {n : Nat} {i v : Int} (hi : P_in P_Y0 y pc rt hs .iastore nx r1 r2 kN kT) (hl : w.2.1 k = true) (hs' : w.1 k = .inr (.inl n)) (h0 : 0 ≤ i) (h1 : i < n) (hn : n ≤ 65536) (kk : P_aw w d y nx (P_kill L kN) st (P_u2 σ k i.toNat v) Q) : P_aw w d y pc L (P_z v :: P_z i :: .ref (w.2.2 k) :: st) σ Q := by
  refine P_aw_hp (σ' := P_u2 σ k i.toNat v) hi rfl rfl (fun h hW => ?_) kk
  obtain ⟨g1, g2⟩ := hW.1 k hl
  rw [P_cel_a hs'] at g2
  have e : P_cel w (P_u2 σ k i.toNat v) k = .inl (0, n, .inl (upd (fun j => Int32.ofInt (σ k j)) i.toNat (Int32.ofInt v))) := by
    rw [P_cel_a hs', P_u2_self]
    have : (fun j => Int32.ofInt (if j = i.toNat then v else σ k j)) = upd (fun j => Int32.ofInt (σ k j)) i.toNat (Int32.ofInt v) := by
      funext j
      unfold upd
      split <;> rfl
    rw [this]
  refine ⟨P_set h (w.2.2 k) (P_cel w (P_u2 σ k i.toNat v) k), ?_, P_Wk_set hW hl P_u2_row⟩
  simp only [P_hp, g2]
  rw [if_pos (show P_Y0.2.1 ≤ w.2.2 k from g1), P_ixz h0 h1 hn, e]
  simp only [Option.bind_some]
theorem P_aw_alen {n : Nat} (hi : P_in P_Y0 y pc rt hs .arraylength nx r1 r2 kN kT) (hl : w.2.1 k = true) (hs' : w.1 k = .inr (.inl n)) (kk : P_aw w d y nx (P_kill L kN) (P_z (n : Int) :: st) σ Q) : P_aw w d y pc L (.ref (w.2.2 k) :: st) σ Q := by
  refine P_aw_hp hi rfl rfl (fun h hW => ⟨h, ?_, hW, P_Fr_rf⟩) kk
  obtain ⟨g1, g2⟩ := hW.1 k hl
  rw [P_cel_a hs'] at g2
  simp only [P_hp, g2]
  rw [if_pos (show P_Y0.2.1 ≤ w.2.2 k ∨ _ from Or.inl g1)]
  simp only [P_z, Int32.ofInt_eq_ofNat]
theorem P_aw_rlen {ty n : Nat} (hi : P_in P_Y0 y pc rt hs .arraylength nx r1 r2 kN kT) (hl : w.2.1 k = true) (hs' : w.1 k = .inr (.inr (.inl (ty, n)))) (kk : P_aw w d y nx (P_kill L kN) (P_z (n : Int) :: st) σ Q) : P_aw w d y pc L (.ref (w.2.2 k) :: st) σ Q := by
  refine P_aw_hp hi rfl rfl (fun h hW => ⟨h, ?_, hW, P_Fr_rf⟩) kk
  obtain ⟨g1, g2⟩ := hW.1 k hl
  rw [P_cel_r hs'] at g2
  simp only [P_hp, g2]
  rw [if_pos (show P_Y0.2.1 ≤ w.2.2 k ∨ _ from Or.inl g1)]
  simp only [P_z, Int32.ofInt_eq_ofNat]
theorem P_aw_clen {ty : Nat} {ks : List Nat} {n : Nat} (hi : P_in P_Y0 y pc rt hs .arraylength nx r1 r2 kN kT) (hl : w.2.1 k = true) (hs' : w.1 k = .inr (.inr (.inr (ty, ks)))) (hn : ks.length = n) (kk : P_aw w d y nx (P_kill L kN) (P_z (n : Int) :: st) σ Q) : P_aw w d y pc L (.ref (w.2.2 k) :: st) σ Q := by
  subst hn
  refine P_aw_hp hi rfl rfl (fun h hW => ⟨h, ?_, hW, P_Fr_rf⟩) kk
  obtain ⟨g1, g2⟩ := hW.1 k hl
  rw [P_cel_c hs'] at g2
  simp only [P_hp, g2]
  rw [if_pos (show P_Y0.2.1 ≤ w.2.2 k ∨ _ from Or.inl g1)]
  simp only [P_z, Int32.ofInt_eq_ofNat]
/-- a reference out of a row, that is there -/
theorem P_aw_rld {ty n : Nat} {i : Int} (hi : P_in P_Y0 y pc rt hs .aaload nx r1 r2 kN kT) (hl : w.2.1 k = true) (hs' : w.1 k = .inr (.inr (.inl (ty, n)))) (hty : 4 ≤ ty) (h0 : 0 ≤ i) (h1 : i < n) (hn : n ≤ 65536) (hv : 0 ≤ σ k i.toNat) (kk : P_aw w d y nx (P_kill L kN) (.ref (w.2.2 (σ k i.toNat).toNat) :: st) σ Q) : P_aw w d y pc L (P_z i :: .ref (w.2.2 k) :: st) σ Q := by
  refine P_aw_hp hi rfl rfl (fun h hW => ⟨h, ?_, hW, P_Fr_rf⟩) kk
  obtain ⟨g1, g2⟩ := hW.1 k hl
  rw [P_cel_r hs'] at g2
  simp only [P_hp, g2]
  rw [if_pos ⟨g1, hty⟩, P_ixz h0 h1 hn]
  simp only [Option.bind_some]
  rw [if_neg (by omega)]
  rfl
theorem P_aw_rldv {ty n : Nat} {i v : Int} (hi : P_in P_Y0 y pc rt hs .aaload nx r1 r2 kN kT) (hl : w.2.1 k = true) (hs' : w.1 k = .inr (.inr (.inl (ty, n)))) (hty : 4 ≤ ty) (h0 : 0 ≤ i) (h1 : i < n) (hn : n ≤ 65536) (hv : σ k i.toNat = v) (hv0 : 0 ≤ v) (kk : P_aw w d y nx (P_kill L kN) (.ref (w.2.2 v.toNat) :: st) σ Q) : P_aw w d y pc L (P_z i :: .ref (w.2.2 k) :: st) σ Q := by
  subst hv
  exact P_aw_rld hi hl hs' hty h0 h1 hn hv0 kk
theorem P_aw_rld0 {ty n : Nat} {i : Int} (hi : P_in P_Y0 y pc rt hs .aaload nx r1 r2 kN kT) (hl : w.2.1 k = true) (hs' : w.1 k = .inr (.inr (.inl (ty, n)))) (hty : 4 ≤ ty) (h0 : 0 ≤ i) (h1 : i < n) (hn : n ≤ 65536) (hv : σ k i.toNat < 0) (kk : P_aw w d y nx (P_kill L kN) (.null :: st) σ Q) : P_aw w d y pc L (P_z i :: .ref (w.2.2 k) :: st) σ Q := by
  refine P_aw_hp hi rfl rfl (fun h hW => ⟨h, ?_, hW, P_Fr_rf⟩) kk
  obtain ⟨g1, g2⟩ := hW.1 k hl
  rw [P_cel_r hs'] at g2
  simp only [P_hp, g2]
  rw [if_pos ⟨g1, hty⟩, P_ixz h0 h1 hn]
  simp only [Option.bind_some]
  rw [if_pos hv]
  rfl
theorem P_aw_cld {ty : Nat} {ks : List Nat} {i : Int} {j : Nat} (hi : P_in P_Y0 y pc rt hs .aaload nx r1 r2 kN kT) (hl : w.2.1 k = true) (hs' : w.1 k = .inr (.inr (.inr (ty, ks)))) (hty : 4 ≤ ty) (h0 : 0 ≤ i) (h1 : ks[i.toNat]? = some j) (hn : ks.length ≤ 65536) (kk : P_aw w d y nx (P_kill L kN) (.ref (w.2.2 j) :: st) σ Q) : P_aw w d y pc L (P_z i :: .ref (w.2.2 k) :: st) σ Q := by
  refine P_aw_hp hi rfl rfl (fun h hW => ⟨h, ?_, hW, P_Fr_rf⟩) kk
  obtain ⟨g1, g2⟩ := hW.1 k hl
  have hlt : i.toNat < ks.length := (List.getElem?_eq_some_iff.mp h1).1
  rw [P_cel_c hs'] at g2
  simp only [P_hp, g2]
  rw [if_pos ⟨g1, hty⟩, P_ixz h0 (by omega) hn]
  simp only [Option.bind_some, h1, Option.map_some]
  rfl
theorem P_aw_rst {cj ty n j : Nat} {fj : List (Option (Option Nat))} {i : Int} (hi : P_in P_Y0 y pc rt hs .aastore nx r1 r2 kN kT) (hl : w.2.1 k = true) (hs' : w.1 k = .inr (.inr (.inl (ty, n)))) (hlj : w.2.1 j = true) (hj : w.1 j = .inl (cj, fj)) (hty : ty = 100 + cj) (h0 : 0 ≤ i) (h1 : i < n) (hn : n ≤ 65536) (kk : P_aw w d y nx (P_kill L kN) st (P_u2 σ k i.toNat (j : Int)) Q) : P_aw w d y pc L (.ref (w.2.2 j) :: P_z i :: .ref (w.2.2 k) :: st) σ Q := by
  refine P_aw_hp (σ' := P_u2 σ k i.toNat (j : Int)) hi rfl rfl (fun h hW => ?_) kk
  obtain ⟨g1, g2⟩ := hW.1 k hl
  obtain ⟨g3, g4⟩ := hW.1 j hlj
  rw [P_cel_r hs'] at g2
  rw [P_cel_o hj] at g4
  have e : P_cel w (P_u2 σ k i.toNat (j : Int)) k = .inl (ty, n, .inr (.inr (.inr (.inr (va_up (fun b => if σ k b < 0 then none else some (w.2.2 (σ k b).toNat)) i.toNat (some (w.2.2 j))))))) := by
    rw [P_cel_r hs', P_u2_self]
    have : (fun b => if (if b = i.toNat then (j : Int) else σ k b) < 0 then none else some (w.2.2 (if b = i.toNat then (j : Int) else σ k b).toNat)) = va_up (fun b => if σ k b < 0 then none else some (w.2.2 (σ k b).toNat)) i.toNat (some (w.2.2 j)) := by
      funext b
      unfold va_up
      by_cases e : b = i.toNat
      · simp only [e, if_true]
        rw [if_neg (by omega), Int.toNat_natCast]
      · simp only [e, if_false]
    rw [this]
  refine ⟨P_set h (w.2.2 k) (P_cel w (P_u2 σ k i.toNat (j : Int)) k), ?_, P_Wk_set hW hl P_u2_row⟩
  simp only [P_hp, g2, g4]
  rw [if_pos ⟨g1, g3, hty⟩, P_ixz h0 h1 hn, e]
  simp only [Option.bind_some]
end OBJ
/-- the row that is never written -/
theorem P_aw_gst {idx : Nat} (hi : P_in P_Y0 y pc rt hs (.getstatic idx) nx r1 r2 kN kT) (kk : P_aw w d y nx (P_kill L kN) (.ref r2 :: st) σ Q) : P_aw w d y pc L st σ Q :=
  P_aw_hp hi rfl rfl (fun h hW => ⟨h, rfl, hW, P_Fr_rf⟩) kk
theorem P_aw_oald {i : Int} {v : Int} (hi : P_in P_Y0 y pc rt hs .iaload nx r1 r2 kN kT) (h0 : 0 ≤ i) (h1 : i < 18) (hv : P_ord i.toNat = Int32.ofInt v) (kk : P_aw w d y nx (P_kill L kN) (P_z v :: st) σ Q) : P_aw w d y pc L (P_z i :: .ref 1 :: st) σ Q := by
  refine P_aw_hp hi rfl rfl (fun h hW => ⟨h, ?_, hW, P_Fr_rf⟩) kk
  simp only [P_hp, hW.2.2, P_ixz h0 h1 (show 18 ≤ 65536 by decide), Option.bind_some, hv]
theorem P_aw_olen (hi : P_in P_Y0 y pc rt hs .arraylength nx r1 r2 kN kT) (kk : P_aw w d y nx (P_kill L kN) (P_z 18 :: st) σ Q) : P_aw w d y pc L (.ref 1 :: st) σ Q := by
  refine P_aw_hp hi rfl rfl (fun h hW => ⟨h, ?_, hW, P_Fr_rf⟩) kk
  simp only [P_hp, hW.2.2]
  rw [if_pos (Or.inr trivial)]
  rfl
/-- a call: the callee's run, then on -/
theorem P_aw_call {i : Instr} {y2 mx2 : Nat} {m2 : Option FieldType × (Nat → Option P_I) × List (Nat × Nat × Nat × Nat × Nat)} {as r0 : List Value} (hi : P_in P_Y0 y pc rt hs i nx r1 r2 kN kT) (ho : P_op i r1 r2 L st = none) (hb : P_br i st = none) (hp : ∀ h, P_hp P_Y0.1 P_Y0.2.1 i r1 r2 st h = none) (hr : P_ret rt i st = none) (hj : P_jdk i r2 st = none) (hsw : P_sw i pc st = none) (ht : P_thr i r2 st = none) (hv : ∀ h, P_Wk w σ h → P_inv P_Y0.2.2.2 i r1 r2 st h = some (y2, as, r0)) (hcs : P_cs r0 ≤ 8) (h0 : y2 ≠ 0) (hm : P_Y0.2.2.1 y2 = some (mx2, m2)) (hl : (P_args as).length ≤ mx2)
    (k : P_aw w d y2 0 (P_fit mx2 (P_args as)) [] σ (fun r σ' => match r with
      | .inl v => P_aw w (d + 1) y nx (P_kill L kN) (v.toList ++ r0) σ' Q
      | .inr _ => False)) : P_aw w (d + 1) y pc L st σ Q := by
  intro h hW
  refine P_wp_call hi ho hb (hp h) hr hj hsw ht (hv h hW) hcs h0 hm hl (P_wp_mono (k h hW) ?_)
  rintro (v | E) h1 ⟨s1, a1, a2, a3⟩
  · exact P_wp_mono (a3 h1 a1) (fun r h2 ⟨s2, q1, q2, q3⟩ => ⟨s2, q1, P_Fr_tr a2 q2, q3⟩)
  · exact a3.elim
theorem P_inv_v {i : Nat} {k ci y2 : Nat} {fs : List (Option (Option Nat))} {r0 : List Value} (hl : w.2.1 k = true) (hs' : w.1 k = .inl (ci, fs)) (hV : P_Y0.2.2.2 r2 ci = some y2) (hd : st.drop r1.toNat = .ref (w.2.2 k) :: r0) : ∀ h, P_Wk w σ h → P_inv P_Y0.2.2.2 (.invokevirtual i) r1 r2 st h = some (y2, .ref (w.2.2 k) :: (st.take r1.toNat).reverse, r0) := by
  intro h hW
  obtain ⟨g1, g2⟩ := hW.1 k hl
  rw [P_cel_o hs'] at g2
  simp only [P_inv, hd, g2, hV]
theorem P_aw_end {i : Instr} {v : Option Value} (hi : P_in P_Y0 y pc rt hs i nx r1 r2 kN kT) (ho : P_op i r1 r2 L st = none) (hb : P_br i st = none) (hp : ∀ h, P_hp P_Y0.1 P_Y0.2.1 i r1 r2 st h = none) (hr : P_ret rt i st = some v) (hq : Q (.inl v) σ) : P_aw w d y pc L st σ Q := by
  intro h hW
  refine P_wp_end (x := (.inl v, h)) hi (fun ex => ?_) ⟨σ, hW, P_Fr_rf, hq⟩
  unfold P_do
  rw [ho]; simp only; rw [hb]; simp only; rw [hp]; simp only; rw [hr]
/-- Math.max, Math.min, Object's constructor -/
theorem P_aw_jdk {i : Instr} (hi : P_in P_Y0 y pc rt hs i nx r1 r2 kN kT) (ho : P_op i r1 r2 L st = none) (hb : P_br i st = none) (hp : ∀ h, P_hp P_Y0.1 P_Y0.2.1 i r1 r2 st h = none) (hr : P_ret rt i st = none) (hj : P_jdk i r2 st = some st') (k : P_aw w d y nx (P_kill L kN) st' σ Q) : P_aw w d y pc L st σ Q := by
  intro h hW
  refine P_wp_step hi (fun ex => ?_) (k h hW)
  unfold P_do
  rw [ho]; simp only; rw [hb]; simp only; rw [hp]; simp only; rw [hr]; simp only; rw [hj]
theorem P_jdk_max {idx : Nat} {a b : Int} (ha : P_rg a) (hb : P_rg b) (hc : P_cs st ≤ 8) : P_jdk (.invokestatic idx) 9001 (P_z b :: P_z a :: st) = some (P_z (max a b) :: st) := by
  simp only [P_jdk, if_pos hc, if_true]
  congr 3
  by_cases e : a < b
  · rw [if_pos (by rw [Int32.lt_iff_toInt_lt, P_toInt ha, P_toInt hb]; exact e), Int.max_eq_right (by omega)]
  · rw [if_neg (by rw [Int32.lt_iff_toInt_lt, P_toInt ha, P_toInt hb]; exact e), Int.max_eq_left (by omega)]
theorem P_jdk_min {idx : Nat} {a b : Int} (ha : P_rg a) (hb : P_rg b) (hc : P_cs st ≤ 8) : P_jdk (.invokestatic idx) 9002 (P_z b :: P_z a :: st) = some (P_z (min a b) :: st) := by
  simp only [P_jdk, if_pos hc, show ¬ (9002 : Nat) = 9001 by decide, if_false, if_true]
  congr 3
  by_cases e : b < a
  · rw [if_pos (by rw [Int32.lt_iff_toInt_lt, P_toInt ha, P_toInt hb]; exact e), Int.min_eq_right (by omega)]
  · rw [if_neg (by rw [Int32.lt_iff_toInt_lt, P_toInt ha, P_toInt hb]; exact e), Int.min_eq_left (by omega)]
/-- a switch -/
theorem P_aw_sw {df lo hi' : Int} {offs : Array Int} {u : Int} {t : Nat} (hi : P_in P_Y0 y pc rt hs (.tableswitch df lo hi' offs) nx r1 r2 kN kT) (ht : (P_sw (.tableswitch df lo hi' offs) pc [P_z u]).map Prod.fst = some t) (k : P_aw w d y t L st σ Q) : P_aw w d y pc L (P_z u :: st) σ Q :=
  fun h hW => P_wp_step hi (fun _ => P_do_sw ht) (k h hW)
/-- arithmetic -/
theorem P_o_iadd {a b : Int} : P_op .iadd r1 r2 L (P_z b :: P_z a :: st) = some (L, P_z (a + b) :: st) := by simp only [P_op, P_ii, P_z, Int32.ofInt_add]
theorem P_o_isub {a b : Int} : P_op .isub r1 r2 L (P_z b :: P_z a :: st) = some (L, P_z (a - b) :: st) := by simp only [P_op, P_ii, P_z, Int32.ofInt_sub]
theorem P_o_imul {a b : Int} : P_op .imul r1 r2 L (P_z b :: P_z a :: st) = some (L, P_z (a * b) :: st) := by simp only [P_op, P_ii, P_z, Int32.ofInt_mul]
theorem P_o_ineg {a : Int} : P_op .ineg r1 r2 L (P_z a :: st) = some (L, P_z (-a) :: st) := by simp only [P_op, P_u, P_ineg, P_z, Int32.ofInt_neg]
theorem P_idiv32 {a b : Int} (ha : 0 ≤ a) (ha2 : a ≤ 2147483647) (hb : 0 < b) (hb2 : b ≤ 2147483647) : Int32.ofInt a / Int32.ofInt b = Int32.ofInt (a / b) := by
  rw [← Int.tdiv_eq_ediv_of_nonneg ha, Int32.ofInt_tdiv (by rw [show Int32.minValue.toInt = -2147483648 by decide]; omega) (by rw [show Int32.maxValue.toInt = 2147483647 by decide]; omega) (by rw [show Int32.minValue.toInt = -2147483648 by decide]; omega) (by rw [show Int32.maxValue.toInt = 2147483647 by decide]; omega)]
theorem P_ne0 {b : Int} (hb : 0 < b) (hb2 : b ≤ 2147483647) : ¬ Int32.ofInt b = 0 := by
  intro q
  have := congrArg Int32.toInt q
  rw [P_toInt ⟨by omega, by omega⟩] at this
  have h0 : (0 : Int32).toInt = 0 := by decide
  omega
theorem P_o_idiv {a b : Int} (ha : 0 ≤ a) (ha2 : a ≤ 2147483647) (hb : 0 < b) (hb2 : b ≤ 2147483647) : P_op .idiv r1 r2 L (P_z b :: P_z a :: st) = some (L, P_z (a / b) :: st) := by
  simp only [P_op, P_id, P_z, if_neg (P_ne0 hb hb2), P_idiv32 ha ha2 hb hb2]
theorem P_o_irem {a b : Int} (ha : 0 ≤ a) (ha2 : a ≤ 2147483647) (hb : 0 < b) (hb2 : b ≤ 2147483647) : P_op .irem r1 r2 L (P_z b :: P_z a :: st) = some (L, P_z (a % b) :: st) := by
  simp only [P_op, P_id, P_z, if_neg (P_ne0 hb hb2), P_idiv32 ha ha2 hb hb2, ← Int32.ofInt_mul, ← Int32.ofInt_sub]
  rw [show a - a / b * b = a % b by rw [Int.emod_def, Int.mul_comm]]
theorem P_o_iinc {k : Nat} {n : Int} {x : Int} (hk : L[k]? = some (P_z x)) : P_op (.iinc k n) r1 r2 L st = some (P_st1 L k (P_z (x + n)), st) := by simp only [P_op, P_iinc, hk, P_z, Int32.ofInt_add]
theorem P_o_iincv {k : Nat} {n : Int} {x v : Int} (hk : L[k]? = some (P_z x)) (hv : x + n = v) : P_op (.iinc k n) r1 r2 L st = some (P_st1 L k (P_z v), st) := by
  subst hv
  exact P_o_iinc hk
theorem P_o_bi {n : Int} (hn : (Int8.ofInt n).toInt32 = Int32.ofInt n) : P_op (.bipush n) r1 r2 L st = some (L, P_z n :: st) := by simp only [P_op, P_z, hn]
theorem P_o_si {n : Int} (hn : (Int16.ofInt n).toInt32 = Int32.ofInt n) : P_op (.sipush n) r1 r2 L st = some (L, P_z n :: st) := by simp only [P_op, P_z, hn]
theorem P_o_ladd {a b : Int} : P_op .ladd r1 r2 L (P_zl b :: P_zl a :: st) = some (L, P_zl (a + b) :: st) := by simp only [P_op, P_ll, P_zl, Int64.ofInt_add]
theorem P_o_lmul {a b : Int} : P_op .lmul r1 r2 L (P_zl b :: P_zl a :: st) = some (L, P_zl (a * b) :: st) := by simp only [P_op, P_ll, P_zl, Int64.ofInt_mul]
theorem P_i2lz {x : Int} (h : P_rg x) : (Int32.ofInt x).toInt64 = Int64.ofInt x := by
  apply Int64.toInt_inj.mp
  rw [Int32.toInt_toInt64, P_toInt h, P_toIntl ⟨by have := h.1; omega, by have := h.2; omega⟩]
theorem P_o_i2l {a : Int} (ha : P_rg a) : P_op .i2l r1 r2 L (P_z a :: st) = some (L, P_zl a :: st) := by simp only [P_op, P_u, P_i2l, P_z, P_zl, P_i2lz ha]
theorem P_rgl_of {x : Int} (h : P_rg x) : P_rgl x := ⟨by have := h.1; omega, by have := h.2; omega⟩
theorem P_lcmpz {a b : Int} (ha : P_rgl a) (hb : P_rgl b) : lg_cmp (Int64.ofInt a) (Int64.ofInt b) = if b < a then 1 else if a = b then 0 else -1 := by
  unfold lg_cmp
  simp only [Int64.lt_iff_toInt_lt, ← Int64.toInt_inj, P_toIntl ha, P_toIntl hb]
theorem P_ci_cmp {c : ClassFile.Cond} {a b : Int} : P_ci c (if b < a then 1 else if a = b then 0 else -1) 0 = P_ci c a b := by
  rcases Int.lt_trichotomy a b with h | h | h
  · rw [if_neg (by omega), if_neg (by omega)]
    cases c <;> rw [Bool.eq_iff_iff] <;> simp only [P_ci, decide_eq_true_eq] <;> omega
  · rw [if_neg (by omega), if_pos h]
    subst h
    cases c <;> simp [P_ci]
  · rw [if_pos h]
    cases c <;> rw [Bool.eq_iff_iff] <;> simp only [P_ci, decide_eq_true_eq] <;> omega
theorem P_cmp_rg {a b : Int} : P_rg (if b < a then 1 else if a = b then 0 else -1) := by
  unfold P_rg
  (repeat' split) <;> omega
theorem P_o_lcmp {a b : Int} (ha : P_rgl a) (hb : P_rgl b) : P_op .lcmp r1 r2 L (P_zl b :: P_zl a :: st) = some (L, P_z (if b < a then 1 else if a = b then 0 else -1) :: st) := by
  simp only [P_op, P_lcmp, P_zl, P_lcmpz ha hb, P_z]
  congr 4
  (repeat' split) <;> rfl
theorem P_aw_lct {c : ClassFile.Cond} {o a b : Int} {nx2 r22 : Nat} {r12 : Int} {kN2 kT2 : List Nat} (h1 : P_in P_Y0 y pc rt hs .lcmp nx r1 r2 kN kT) (h2 : P_in P_Y0 y nx rt hs (.ifCond c o) nx2 r12 r22 kN2 kT2) (ha : P_rgl a) (hb : P_rgl b) (hj : P_ci c a b = true) (k : P_aw w d y r22 (P_kill (P_kill L kN) kT2) st σ Q) : P_aw w d y pc L (P_zl b :: P_zl a :: st) σ Q :=
  P_aw_op h1 (P_o_lcmp ha hb) (P_aw_izt h2 P_cmp_rg (P_ci_cmp.trans hj) k)
theorem P_aw_lcf {c : ClassFile.Cond} {o a b : Int} {nx2 r22 : Nat} {r12 : Int} {kN2 kT2 : List Nat} (h1 : P_in P_Y0 y pc rt hs .lcmp nx r1 r2 kN kT) (h2 : P_in P_Y0 y nx rt hs (.ifCond c o) nx2 r12 r22 kN2 kT2) (ha : P_rgl a) (hb : P_rgl b) (hj : P_ci c a b = false) (k : P_aw w d y nx2 (P_kill (P_kill L kN) kN2) st σ Q) : P_aw w d y pc L (P_zl b :: P_zl a :: st) σ Q :=
  P_aw_op h1 (P_o_lcmp ha hb) (P_aw_izf h2 P_cmp_rg (P_ci_cmp.trans hj) k)
theorem P_ldiv64 {a b : Int} (ha : 0 ≤ a) (ha2 : a ≤ 9223372036854775807) (hb : 0 < b) (hb2 : b ≤ 9223372036854775807) : Int64.ofInt a / Int64.ofInt b = Int64.ofInt (a / b) := by
  rw [← Int.tdiv_eq_ediv_of_nonneg ha, Int64.ofInt_tdiv (by rw [show Int64.minValue.toInt = -9223372036854775808 by decide]; omega) (by rw [show Int64.maxValue.toInt = 9223372036854775807 by decide]; omega) (by rw [show Int64.minValue.toInt = -9223372036854775808 by decide]; omega) (by rw [show Int64.maxValue.toInt = 9223372036854775807 by decide]; omega)]
theorem P_ne0l {b : Int} (hb : 0 < b) (hb2 : b ≤ 9223372036854775807) : ¬ Int64.ofInt b = 0 := by
  intro q
  have := congrArg Int64.toInt q
  rw [P_toIntl ⟨by omega, by omega⟩] at this
  have h0 : (0 : Int64).toInt = 0 := by decide
  omega
theorem P_o_ldiv {a b : Int} (ha : 0 ≤ a) (ha2 : a ≤ 9223372036854775807) (hb : 0 < b) (hb2 : b ≤ 9223372036854775807) : P_op .ldiv r1 r2 L (P_zl b :: P_zl a :: st) = some (L, P_zl (a / b) :: st) := by
  simp only [P_op, P_ld, P_zl, if_neg (P_ne0l hb hb2), P_ldiv64 ha ha2 hb hb2]
end AW
/-- what is asked of the cells' kinds: the class's own -/
def P_tsh (k : Nat) : P_Sh := .inl (9, [none, some (some (k + 1)), some (some (k + 2)), none])
def P_csh : P_Sh := .inl (1, [none, none, none, none])
def P_shl : List P_Sh := [.inl (10, [some (some 1), some (some 29), some (some 6), some (some 13), some (some 31), some (some 42), some (some 44)]),
  .inl (8, [some (some 2), some (some 3), none]), .inr (.inr (.inl (109, 5))), P_tsh 3, .inr (.inl 42), .inr (.inl 3),
  .inl (3, [some (some 7), some (some 8), some (some 9), some (some 10), none, none, none, none, none]), .inr (.inl 4), .inr (.inl 4), .inr (.inr (.inl (109, 3))), P_tsh 10, .inr (.inl 42), .inr (.inl 3),
  .inl (5, [some (some 6), some (some 14), some (some 27), some (some 28), none, none]), .inr (.inr (.inr (101, [15, 16, 17, 18, 19, 20, 21, 22, 23, 24, 25, 26]))),
  P_csh, P_csh, P_csh, P_csh, P_csh, P_csh, P_csh, P_csh, P_csh, P_csh, P_csh, P_csh, P_csh, .inr (.inl 3),
  .inl (7, [some (some 1), some (some 6), some (some 13), some (some 30), none, none, none, none, none, none]), .inr (.inl 40),
  .inl (0, [some (some 6), some (some 13), some (some 32), none, none, none, none, none, some (some 33), some (some 37), some (some 38), some (some 39), some (some 40), some (some 41), none, none, none]), .inr (.inl 3),
  .inl (4, [some (some 6), some (some 34), some (some 35), some (some 36)]), .inr (.inl 14), .inr (.inl 14), .inr (.inl 56), .inr (.inl 2744), .inr (.inl 2744), .inr (.inl 2744), .inr (.inl 2744), .inr (.inl 2744),
  .inl (2, [some (some 6), some (some 13), some (some 43), none, none, none, none, none]), .inr (.inl 3), .inl (6, [none, none, none, none]),
  .inr (.inl 0), .inr (.inl 0), .inr (.inl 0), .inr (.inl 0), .inr (.inl 0),
  P_tsh 50, .inr (.inl 42), .inr (.inl 3), P_tsh 53, .inr (.inl 42), .inr (.inl 3), P_tsh 56, .inr (.inl 42), .inr (.inl 3), P_tsh 59, .inr (.inl 42), .inr (.inl 3), P_tsh 62, .inr (.inl 42), .inr (.inl 3)]
def P_sh0 (k : Nat) : P_Sh := (P_shl[k]?).getD (.inr (.inl 0))
def P_Cw (w : P_Lw) : Prop := w.1 = P_sh0 ∧ (∀ k, k < 42 → w.2.1 k = true) ∧ w.2.1 44 = true
theorem P_Cw.s {w : P_Lw} (hw : P_Cw w) {k : Nat} {sh : P_Sh} (h : P_sh0 k = sh) : w.1 k = sh := by rw [hw.1]; exact h
theorem P_Cw.c {w : P_Lw} (hw : P_Cw w) {j : Nat} (h : j < 13) : w.1 (15 + j) = P_csh ∧ w.2.1 (15 + j) = true := by
  refine ⟨?_, hw.2.1 _ (by omega)⟩
  rw [hw.1]
  match j, h with
  | 0, _ => rfl
  | 1, _ => rfl
  | 2, _ => rfl
  | 3, _ => rfl
  | 4, _ => rfl
  | 5, _ => rfl
  | 6, _ => rfl
  | 7, _ => rfl
  | 8, _ => rfl
  | 9, _ => rfl
  | 10, _ => rfl
  | 11, _ => rfl
  | 12, _ => rfl
  | j + 13, h => exact absurd h (by omega)
theorem P_c12 {j : Nat} (h : j < 12) : ([15, 16, 17, 18, 19, 20, 21, 22, 23, 24, 25, 26] : List Nat)[j]? = some (15 + j) := by
  match j, h with
  | 0, _ => rfl
  | 1, _ => rfl
  | 2, _ => rfl
  | 3, _ => rfl
  | 4, _ => rfl
  | 5, _ => rfl
  | 6, _ => rfl
  | 7, _ => rfl
  | 8, _ => rfl
  | 9, _ => rfl
  | 10, _ => rfl
  | 11, _ => rfl
  | j + 12, h => exact absurd h (by omega)
/-- a table's three cells -/
def P_isT (w : P_Lw) (k : Nat) : Prop := (w.1 k = P_tsh k ∧ w.2.1 k = true) ∧ (w.1 (k + 1) = .inr (.inl 42) ∧ w.2.1 (k + 1) = true) ∧ (w.1 (k + 2) = .inr (.inl 3) ∧ w.2.1 (k + 2) = true)
def P_isC (w : P_Lw) (k : Nat) : Prop := w.1 k = P_csh ∧ w.2.1 k = true
theorem P_qz {Q : P_R → P_A → Prop} {v v' : Int} {s s' : P_A} (hv : v' = v) (hs : s' = s) (q : Q (.inl (some (P_z v))) s) : Q (.inl (some (P_z v'))) s' := by subst hv; subst hs; exact q
theorem P_qn {Q : P_R → P_A → Prop} {s s' : P_A} (hs : s' = s) (q : Q (.inl none) s) : Q (.inl none) s' := by subst hs; exact q
theorem P_ql {Q : P_R → P_A → Prop} {v v' : Int} {s s' : P_A} (hv : v' = v) (hs : s' = s) (q : Q (.inl (some (P_zl v))) s) : Q (.inl (some (P_zl v'))) s' := by subst hv; subst hs; exact q
theorem P_ret_b {v : Int} (h : 0 ≤ v ∧ v ≤ 1) : P_ret (some .boolean) .ireturn [P_z v] = some (some (P_z v)) := by
  have : v = 0 ∨ v = 1 := by omega
  rcases this with rfl | rfl <;> rfl
theorem P_aws {w : P_Lw} {d y pc : Nat} {L st : List Value} {σ σ' : P_A} {Q : P_R → P_A → Prop} (hs : σ = σ') (k : P_aw w d y pc L st σ' Q) : P_aw w d y pc L st σ Q := by subst hs; exact k
