/-! THE TIE, 4: cells -/
def P_ar (ρ : List Nat) (f g : (Nat → Int32) ⊕ (Nat → Int64) ⊕ (Nat → UInt32) ⊕ (Nat → UInt64) ⊕ (Nat → Option Nat)) : Prop := match f with
  | .inr (.inr (.inr (.inr f))) => ∃ g' : Nat → Option Nat, g = .inr (.inr (.inr (.inr g'))) ∧ ∀ j, (f j = none ∧ g' j = none) ∨ ∃ i q, f j = some i ∧ g' j = some q ∧ ρ[i]? = some q
  | f => g = f
def P_c (aty : Nat → FieldType) (tys : List (ClassId × FieldType)) (ρ : List Nat) (c : P_E) (e : va_E) : Prop := match c with
  | .inl (k, n, f) => ∃ (cA : ClassId) (t0 : Nat) (g : (Nat → Int32) ⊕ (Nat → Int64) ⊕ (Nat → UInt32) ⊕ (Nat → UInt64) ⊕ (Nat → Option Nat)), tys[t0]? = some (cA, aty k) ∧ e = .inl (cA, n, g) ∧ P_ar ρ f g
  | .inr (ci, fs) => ∃ fs' : List Value, e = .inr (ci, fs') ∧ P_vs ρ fs fs'
abbrev P_rho (ro : List Nat) (ws : va_W) : List Nat := ro ++ ws.map Prod.fst
/-- statics that hold rows never written: name of the kind, of the field, its descriptor, the row's number -/
abbrev P_T : Type := List (String × String × String × Nat)
def P_Wd (cl : List vw_C) (aty : Nat → FieldType) (nro : Nat) (stat : P_T) (D : va_G) (A : Nat → Prop) (s : State) (H : Heap) (locs : List Loc) (ro : List Nat) (ws : va_W) (tys : List (ClassId × FieldType)) (h : List P_E) : Prop :=
  va_P D cl ws H ∧ va_K D cl tys s ∧ va_D A ws ∧ va_S A s.heap H locs ∧ (∀ q, s.heap.size ≤ q → A q) ∧ ro.length = nro ∧ h.length = nro + ws.length ∧
  (∀ (i q : Nat), ro[i]? = some q → ∃ (n : Nat) (f : Nat → Int32), h[i]? = some ((.inl (0, n, .inl f) : P_E)) ∧ va_T .int q n (fun j => .int (f j)) A s s.heap) ∧
  (∀ (i : Nat) (c : P_E) (q : Nat) (e : va_E), h[nro + i]? = some c → ws[i]? = some (q, e) → P_c aty tys (P_rho ro ws) c e) ∧
  (∀ x ∈ stat, ∃ q : Nat, ro[x.2.2.2]? = some q ∧ va_Z x.1 x.2.1 x.2.2.1 (.ref q) A s s.heap)
theorem P_vs.len {ρ : List Nat} : ∀ {vs ws : List Value}, P_vs ρ vs ws → vs.length = ws.length
  | [], [], _ => rfl
  | _ :: _, _ :: _, h => congrArg (· + 1) (P_vs.len h.2)
  | [], _ :: _, h => h.elim
  | _ :: _, [], h => h.elim
theorem P_vs.get {ρ : List Nat} : ∀ {vs ws : List Value} {k : Nat} {v : Value}, P_vs ρ vs ws → vs[k]? = some v → ∃ w, ws[k]? = some w ∧ P_v ρ v w
  | _ :: _, w :: _, 0, v, h, e => ⟨w, rfl, by cases e; exact h.1⟩
  | _ :: _, _ :: _, k + 1, v, h, e => by simpa using P_vs.get (k := k) h.2 (by simpa using e)
  | [], [], _, _, _, e => by simp at e
  | [], _ :: _, _, _, h, _ => h.elim
  | _ :: _, [], _, _, h, _ => h.elim
theorem P_vs.set {ρ : List Nat} : ∀ {vs ws : List Value} {k : Nat} {v w : Value}, P_vs ρ vs ws → P_v ρ v w → P_vs ρ (vs.set k v) (ws.set k w)
  | _ :: _, _ :: _, 0, _, _, h, e => ⟨e, h.2⟩
  | _ :: _, _ :: _, _ + 1, _, _, h, e => ⟨h.1, P_vs.set h.2 e⟩
  | [], [], _, _, _, _, _ => trivial
  | [], _ :: _, _, _, _, h, _ => h.elim
  | _ :: _, [], _, _, _, h, _ => h.elim
theorem P_ar.mono {ρ ρ' : List Nat} (h : P_sub ρ ρ') {f g : (Nat → Int32) ⊕ (Nat → Int64) ⊕ (Nat → UInt32) ⊕ (Nat → UInt64) ⊕ (Nat → Option Nat)} (hf : P_ar ρ f g) : P_ar ρ' f g := by
  obtain f | f | f | f | f := f
  · exact hf
  · exact hf
  · exact hf
  · exact hf
  · obtain ⟨g', h1, h2⟩ := hf
    refine ⟨g', h1, fun j => (h2 j).imp id ?_⟩
    rintro ⟨i, q, a, b, c⟩
    exact ⟨i, q, a, b, h _ _ c⟩
theorem P_c.mono {aty : Nat → FieldType} {tys tys' : List (ClassId × FieldType)} {ρ ρ' : List Nat} (h : P_sub ρ ρ') (ht : ∀ (k : Nat) x, tys[k]? = some x → tys'[k]? = some x) {c : P_E} {e : va_E} (hc : P_c aty tys ρ c e) : P_c aty tys' ρ' c e := by
  obtain ⟨k, n, f⟩ | ⟨ci, fs⟩ := c
  · obtain ⟨cA, t0, g, h1, h2, h3⟩ := hc
    exact ⟨cA, t0, g, ht _ _ h1, h2, h3.mono h⟩
  · obtain ⟨fs', h1, h2⟩ := hc
    exact ⟨fs', h1, h2.mono h⟩
section WD
variable {cl : List vw_C} {aty : Nat → FieldType} {nro : Nat} {stat : P_T} {D : va_G} {A : Nat → Prop} {s : State} {H : Heap} {locs : List Loc} {ro : List Nat} {ws : va_W} {tys : List (ClassId × FieldType)} {h : List P_E}
/-- a written cell, by its number -/
theorem P_Wd.at (hW : P_Wd cl aty nro stat D A s H locs ro ws tys h) {a : Nat} {c : P_E} {w : Value} (ha : nro ≤ a) (hv : P_v (P_rho ro ws) (.ref a) w) (hc : h[a]? = some c) : ∃ (q : Nat) (e : va_E), w = .ref q ∧ ws[a - nro]? = some (q, e) ∧ P_c aty tys (P_rho ro ws) c e := by
  obtain ⟨-, -, -, -, -, h6, h7, -, h9, -⟩ := hW
  obtain ⟨q, hq, rfl⟩ := hv
  have hq2 : (ws.map Prod.fst)[a - nro]? = some q := by
    rw [P_rho, List.getElem?_append_right (by omega), h6] at hq
    exact hq
  rw [List.getElem?_map] at hq2
  obtain ⟨⟨q', e⟩, h1, h2⟩ := Option.map_eq_some_iff.mp hq2
  cases h2
  exact ⟨_, e, rfl, h1, h9 _ c _ e (by rw [show nro + (a - nro) = a by omega]; exact hc) h1⟩
theorem P_Wd.row (hW : P_Wd cl aty nro stat D A s H locs ro ws tys h) {a : Nat} {w : Value} (ha : a < nro) (hv : P_v (P_rho ro ws) (.ref a) w) : ∃ (q n : Nat) (f : Nat → Int32), w = .ref q ∧ h[a]? = some (.inl (0, n, .inl f)) ∧ va_T .int q n (fun j => .int (f j)) A s s.heap := by
  obtain ⟨-, -, -, -, -, h6, h7, h8, -, -⟩ := hW
  obtain ⟨q, hq, rfl⟩ := hv
  rw [P_rho, List.getElem?_append_left (by omega)] at hq
  obtain ⟨n, f, h1, h2⟩ := h8 a q hq
  exact ⟨q, n, f, rfl, h1, h2⟩
theorem P_rho_set {i : Nat} {q : Nat} {e0 e : va_E} (hi : ws[i]? = some (q, e0)) : P_rho ro (ws.set i (q, e)) = P_rho ro ws := by
  have : (ws.set i (q, e)).map Prod.fst = ws.map Prod.fst := by
    refine List.ext_getElem? fun k => ?_
    rw [List.getElem?_map, List.getElem?_map, List.getElem?_set]
    by_cases hk : i = k
    · subst hk
      rw [hi]
      simp [(List.getElem?_eq_some_iff.mp hi).1]
    · simp [hk]
  rw [P_rho, P_rho, this]
theorem P_Wd.set (hW : P_Wd cl aty nro stat D A s H locs ro ws tys h) {a : Nat} {q : Nat} {e0 e : va_E} {c : P_E} {H1 : Heap} {locs1 : List Loc} (ha : nro ≤ a) (hi : ws[a - nro]? = some (q, e0)) (hP : va_P D cl (ws.set (a - nro) (q, e)) H1) (hD : va_D A (ws.set (a - nro) (q, e))) (hS : va_S A s.heap H1 locs1) (hc : P_c aty tys (P_rho ro ws) c e) : P_Wd cl aty nro stat D A s H1 locs1 ro (ws.set (a - nro) (q, e)) tys (h.set a c) := by
  obtain ⟨h1, h2, h3, h4, h5, h6, h7, h8, h9, h10⟩ := hW
  refine ⟨hP, h2, hD, hS, h5, h6, by simpa using h7, fun i q' hq => ?_, fun i c' q' e' hc' he' => ?_, h10⟩
  · obtain ⟨n, f, g1, g2⟩ := h8 i q' hq
    have hlt : i < nro := by rw [← h6]; exact (List.getElem?_eq_some_iff.mp hq).1
    exact ⟨n, f, by rw [List.getElem?_set_ne (by omega)]; exact g1, g2⟩
  · rw [P_rho_set hi]
    rw [List.getElem?_set] at hc' he'
    by_cases hk : a - nro = i
    · subst hk
      rw [if_pos (by omega)] at hc'
      rw [if_pos rfl] at he'
      split at hc'
      · split at he'
        · cases hc'; cases he'
          exact hc
        · cases he'
      · cases hc'
    · rw [if_neg (by omega)] at hc'
      rw [if_neg hk] at he'
      exact h9 i c' q' e' hc' he'
theorem P_sub_push (ro : List Nat) (ws : va_W) (x : Nat × va_E) : P_sub (P_rho ro ws) (P_rho ro (ws ++ [x])) := by
  intro i q hq
  rw [P_rho, List.map_append, ← List.append_assoc]
  rw [List.getElem?_append_left (List.getElem?_eq_some_iff.mp hq).1]
  exact hq
theorem P_Wd.push (hW : P_Wd cl aty nro stat D A s H locs ro ws tys h) {q : Nat} {e : va_E} {c : P_E} {H1 : Heap} {tys1 : List (ClassId × FieldType)} (hK : va_K D cl (tys ++ tys1) s) (hP : va_P D cl (ws ++ [(q, e)]) H1) (hD : va_D A (ws ++ [(q, e)])) (hS : va_S A s.heap H1 locs) (hc : P_c aty (tys ++ tys1) (P_rho ro ws) c e) : P_Wd cl aty nro stat D A s H1 locs ro (ws ++ [(q, e)]) (tys ++ tys1) (h ++ [c]) := by
  obtain ⟨h1, h2, h3, h4, h5, h6, h7, h8, h9, h10⟩ := hW
  have ht : ∀ (k : Nat) x, tys[k]? = some x → (tys ++ tys1)[k]? = some x := fun k x hk => by
    rw [List.getElem?_append_left (List.getElem?_eq_some_iff.mp hk).1]; exact hk
  refine ⟨hP, hK, hD, hS, h5, h6, by simp [h7]; omega, fun i q' hq => ?_, fun i c' q' e' hc' he' => ?_, h10⟩
  · obtain ⟨n, f, g1, g2⟩ := h8 i q' hq
    exact ⟨n, f, by rw [List.getElem?_append_left (List.getElem?_eq_some_iff.mp g1).1]; exact g1, g2⟩
  · by_cases hk : i < ws.length
    · rw [List.getElem?_append_left (by omega)] at hc'
      rw [List.getElem?_append_left hk] at he'
      exact (h9 i c' q' e' hc' he').mono (P_sub_push ro ws _) ht
    · rw [List.getElem?_append_right (by omega)] at hc' he'
      have hz : i - ws.length < 1 := (List.getElem?_eq_some_iff.mp he').1
      rw [show nro + i - h.length = 0 by omega] at hc'
      rw [show i - ws.length = 0 by omega] at he'
      cases hc'; cases he'
      exact hc.mono (P_sub_push ro ws _) (fun _ _ q => q)
theorem P_Wd.new_v (hW : P_Wd cl aty nro stat D A s H locs ro ws tys h) (q : Nat) (e : va_E) : P_v (P_rho ro (ws ++ [(q, e)])) (.ref h.length) (.ref q) := by
  obtain ⟨h1, h2, h3, h4, h5, h6, h7, -⟩ := hW
  refine ⟨q, ?_, rfl⟩
  rw [P_rho, List.getElem?_append_right (by omega), h6, h7, List.getElem?_map, List.getElem?_append_right (by omega)]
  rw [show nro + ws.length - nro - ws.length = 0 by omega]
  rfl
end WD
theorem P_fits_ok {t : FieldType} {v w : Value} {ρ : List Nat} (h : P_fits t v = true) (hv : P_v ρ v w) : narrow t w = w ∧ fits t w = true := by
  cases t <;> simp only [P_fits] at h <;> first | (cases h; done) | skip
  all_goals cases v <;> simp only [fits] at h <;> first | (cases h; done) | skip
  all_goals simp only [P_v] at hv
  all_goals first | (subst hv; refine ⟨?_, h⟩) | (obtain ⟨q, -, rfl⟩ := hv; exact ⟨rfl, rfl⟩)
  all_goals first | rfl | skip
  next x =>
    rcases (by simpa using h : x = 0 ∨ x = 1) with rfl | rfl <;> rfl
