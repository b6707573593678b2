/-! THE TIE, 1: values, locals, stacks; what moves between locals and stack alone -/
/-- a pure value and the machine's; rho: where the cells lie -/
def P_v (ρ : List Nat) (v v' : Value) : Prop := match v with
  | .ref i => ∃ q, ρ[i]? = some q ∧ v' = .ref q
  | .retAddr _ => False
  | v => v' = v
def P_vs (ρ : List Nat) : List Value → List Value → Prop
  | [], [] => True
  | v :: vs, w :: ws => P_v ρ v w ∧ P_vs ρ vs ws
  | _, _ => False
def P_sub (ρ ρ' : List Nat) : Prop := ∀ (i q : Nat), ρ[i]? = some q → ρ'[i]? = some q
theorem P_v.mono {ρ ρ' : List Nat} (h : P_sub ρ ρ') {v v' : Value} (hv : P_v ρ v v') : P_v ρ' v v' := by
  cases v <;> simp only [P_v] at hv ⊢ <;> first | exact hv | (obtain ⟨q, h1, h2⟩ := hv; exact ⟨q, h _ _ h1, h2⟩)
theorem P_vs.mono {ρ ρ' : List Nat} (h : P_sub ρ ρ') : ∀ {vs ws : List Value}, P_vs ρ vs ws → P_vs ρ' vs ws
  | [], [], _ => trivial
  | _ :: _, _ :: _, hv => ⟨hv.1.mono h, P_vs.mono h hv.2⟩
  | [], _ :: _, hv => hv.elim
  | _ :: _, [], hv => hv.elim
theorem P_v.cat {ρ : List Nat} {v v' : Value} (hv : P_v ρ v v') : v'.category = v.category := by
  cases v <;> simp only [P_v] at hv <;> first | (subst hv; rfl) | (obtain ⟨q, -, rfl⟩ := hv; rfl) | exact hv.elim
theorem P_v.c1 {ρ : List Nat} {v v' : Value} (hv : P_v ρ v v') (h : P_c1 v = true) : v'.category = 1 := by
  rw [hv.cat]
  cases v <;> first | rfl | (simp [P_c1] at h)
/-- the locals -/
def P_L (ρ : List Nat) (L : List Value) (ls : Array Slot) (n : Nat) : Prop := L.length = n ∧ ∃ l : List (Nat × Value), lv_has ls n l ∧ ∀ (k : Nat) (v : Value), L[k]? = some v → v = P_un ∨ ∃ v', (k, v') ∈ l ∧ P_v ρ v v'
theorem P_L.mono {ρ ρ' : List Nat} (h : P_sub ρ ρ') {L : List Value} {ls : Array Slot} {n : Nat} (hL : P_L ρ L ls n) : P_L ρ' L ls n := by
  obtain ⟨h0, l, h1, h2⟩ := hL
  exact ⟨h0, l, h1, fun k v hk => (h2 k v hk).imp id fun ⟨v', a, b⟩ => ⟨v', a, b.mono h⟩⟩
theorem P_L.at {ρ : List Nat} {L : List Value} {ls : Array Slot} {n k : Nat} {v : Value} (hL : P_L ρ L ls n) (hk : L[k]? = some v) (hv : v ≠ P_un) : ∃ v', ls[k]? = some (.val v') ∧ P_v ρ v v' := by
  obtain ⟨-, l, h1, h2⟩ := hL
  obtain hq | ⟨v', a, b⟩ := h2 k v hk
  · exact absurd hq hv
  · exact ⟨v', h1.2.2 _ a, b⟩
theorem P_L.drop {ρ : List Nat} {L : List Value} {ls : Array Slot} {n : Nat} (hL : P_L ρ L ls n) (i : Nat) : P_L ρ (L.set i P_un) ls n := by
  obtain ⟨h0, l, h1, h2⟩ := hL
  refine ⟨by simpa using h0, l, h1, fun k v hk => ?_⟩
  rw [List.getElem?_set] at hk
  by_cases e : i = k
  · subst e
    rw [if_pos rfl] at hk
    split at hk
    · exact Or.inl (Option.some.inj hk).symm
    · cases hk
  · rw [if_neg e] at hk
    exact h2 k v hk
theorem P_L.kill {ρ : List Nat} {ls : Array Slot} {n : Nat} (ks : List Nat) : ∀ {L : List Value}, P_L ρ L ls n → P_L ρ (P_kill L ks) ls n := by
  induction ks with
  | nil => exact fun h => h
  | cons k ks ih => exact fun h => ih (h.drop k)
theorem P_pre_len (L : List Value) (i : Nat) : (P_pre L i).length = L.length := by
  unfold P_pre
  split
  · rfl
  · split <;> simp
/-- what a store leaves alone -/
theorem P_pre_at {L : List Value} {i k : Nat} {v : Value} (h : (P_pre L i)[k]? = some v) : v = P_un ∨ (L[k]? = some v ∧ ¬ (k + 1 = i ∧ v.category = 2)) := by
  unfold P_pre at h
  split at h
  · exact Or.inr ⟨h, fun q => by omega⟩
  · next j =>
    by_cases e : j = k
    · subst e
      split at h
      · rw [List.getElem?_set] at h
        simp only [if_true] at h
        split at h
        · exact Or.inl (Option.some.inj h).symm
        · cases h
      · rw [List.getElem?_set] at h
        simp only [if_true] at h
        split at h
        · exact Or.inl (Option.some.inj h).symm
        · cases h
      · next h1 h2 =>
        refine Or.inr ⟨h, fun q => ?_⟩
        cases v <;> first | (exact absurd h (h1 _)) | (exact absurd h (h2 _)) | (simp [Value.category] at q)
    · have h3 : L[k]? = some v := by
        split at h
        · rwa [List.getElem?_set_ne e] at h
        · rwa [List.getElem?_set_ne e] at h
        · exact h
      exact Or.inr ⟨h3, fun q => e (by omega)⟩
/-- the machine's side of a store of one slot, and of two -/
theorem P_L.st1 {ρ : List Nat} {L : List Value} {ls : Array Slot} {n i : Nat} {v v' : Value} (hL : P_L ρ L ls n) (hv : P_v ρ v v') : ∃ l : List (Nat × Value), lv_has ls n l ∧ ∀ ls' : Array Slot, lv_has ls' n ((i, v') :: l.filter (fun q => !(q.1 == i) && !(q.1 + 1 == i && q.2.category == 2))) → P_L ρ (P_st1 L i v) ls' n := by
  obtain ⟨h0, l, h1, h2⟩ := hL
  refine ⟨l, h1, fun ls' h' => ⟨by simp [P_st1, P_pre_len, h0], _, h', fun k x hk => ?_⟩⟩
  unfold P_st1 at hk
  rw [List.getElem?_set] at hk
  by_cases e : i = k
  · subst e
    simp only [if_true] at hk
    split at hk
    · cases hk
      exact Or.inr ⟨v', List.mem_cons_self, hv⟩
    · cases hk
  · rw [if_neg e] at hk
    obtain hq | ⟨h3, h4⟩ := P_pre_at hk
    · exact Or.inl hq
    · obtain hq | ⟨w, a, b⟩ := h2 k x h3
      · exact Or.inl hq
      · refine Or.inr ⟨w, List.mem_cons_of_mem _ (List.mem_filter.mpr ⟨a, ?_⟩), b⟩
        have e' : ¬ k = i := fun q => e q.symm
        have hc := b.cat
        by_cases h5 : k + 1 = i
        · have h6 : ¬ w.category = 2 := fun q => h4 ⟨h5, by rw [← hc]; exact q⟩
          simp [e', h6]
        · simp [e', h5]
theorem P_L.st2 {ρ : List Nat} {L : List Value} {ls : Array Slot} {n i : Nat} {v v' : Value} (hL : P_L ρ L ls n) (hv : P_v ρ v v') : ∃ l : List (Nat × Value), lv_has ls n l ∧ ∀ ls' : Array Slot, lv_has ls' n ((i, v') :: l.filter (fun q => !(q.1 == i) && (!(q.1 == i + 1) && !(q.1 + 1 == i && q.2.category == 2)))) → P_L ρ (P_st2 L i v) ls' n := by
  obtain ⟨h0, l, h1, h2⟩ := hL
  refine ⟨l, h1, fun ls' h' => ⟨by simp [P_st2, P_pre_len, h0], _, h', fun k x hk => ?_⟩⟩
  unfold P_st2 at hk
  rw [List.getElem?_set] at hk
  by_cases e1 : i + 1 = k
  · subst e1
    simp only [if_true] at hk
    split at hk
    · exact Or.inl (Option.some.inj hk).symm
    · cases hk
  rw [if_neg e1, List.getElem?_set] at hk
  by_cases e : i = k
  · subst e
    simp only [if_true] at hk
    split at hk
    · cases hk
      exact Or.inr ⟨v', List.mem_cons_self, hv⟩
    · cases hk
  · rw [if_neg e] at hk
    obtain hq | ⟨h3, h4⟩ := P_pre_at hk
    · exact Or.inl hq
    · obtain hq | ⟨w, a, b⟩ := h2 k x h3
      · exact Or.inl hq
      · refine Or.inr ⟨w, List.mem_cons_of_mem _ (List.mem_filter.mpr ⟨a, ?_⟩), b⟩
        have e' : ¬ k = i := fun q => e q.symm
        have e1' : ¬ k = i + 1 := fun q => e1 q.symm
        have hc := b.cat
        by_cases h5 : k + 1 = i
        · have h6 : ¬ w.category = 2 := fun q => h4 ⟨h5, by rw [← hc]; exact q⟩
          simp [e', e1', h6]
        · simp [e', e1', h5]
