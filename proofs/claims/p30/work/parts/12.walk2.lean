/-! THE TIE, 11: the walk -/
def P_inl (o : P_S ⊕ (P_R × P_H)) (pc : Nat) (L st : List Value) (h : P_H) : Prop := o = .inl (pc, L, st, h)
theorem P_do_inv {Y : P_Y} {ex : Nat → Nat → List Value → P_H → Option (P_R × P_H)} {d : Nat} {rt : Option FieldType} {hs : List (Nat × Nat × Nat × Nat × Nat)} {pc : Nat} {L st : List Value} {h : P_H} {i : Instr} {nx : Nat} {r1 : Int} {r2 : Nat} {kN kT : List Nat} {o : P_S ⊕ (P_R × P_H)} (hd : P_do Y ex d rt hs pc L st h i nx r1 r2 kN kT = some o) :
    (∃ L' st', P_op i r1 r2 L st = some (L', st') ∧ o = .inl (nx, P_kill L' kN, st', h)) ∨
    (∃ j st', P_br i st = some (j, st') ∧ o = .inl (if j = true then r2 else nx, P_kill L (if j = true then kT else kN), st', h)) ∨
    (∃ st' h', P_hp Y.1 Y.2.1 i r1 r2 st h = some (st', h') ∧ o = .inl (nx, P_kill L kN, st', h')) ∨
    (∃ v, P_ret rt i st = some v ∧ o = .inr (.inl v, h)) ∨
    (∃ st', P_jdk i r2 st = some st' ∧ o = .inl (nx, P_kill L kN, st', h)) ∨
    (∃ t st', P_sw i pc st = some (t, st') ∧ o = .inl (t, L, st', h)) ∨
    (∃ E, P_thr i r2 st = some E ∧ o = .inr (.inr E, (h.1, h.2.1 + 1, h.2.2 + 6))) ∨
    (∃ y as r d' x h', P_inv Y.2.2.2 i r1 r2 st h = some (y, as, r) ∧ ¬ 8 < P_cs r ∧ d = d' + 1 ∧ ex d' y as h = some (x, h') ∧
      ((∃ v, x = .inl v ∧ o = .inl (nx, P_kill L kN, v.toList ++ r, h')) ∨ (∃ E p k, x = .inr E ∧ P_find E pc hs = some (p, k) ∧ k < L.length ∧ o = .inl (p, P_st1 L k P_un, [], h')) ∨ (∃ E, x = .inr E ∧ P_find E pc hs = none ∧ o = .inr (.inr E, h')))) := by
  unfold P_do at hd
  split at hd
  · next L' st' he => cases hd; exact Or.inl ⟨L', st', he, rfl⟩
  refine Or.inr ?_
  split at hd
  · next st' he => cases hd; exact Or.inl ⟨true, st', he, rfl⟩
  · next st' he => cases hd; exact Or.inl ⟨false, st', he, rfl⟩
  refine Or.inr ?_
  split at hd
  · next st' h' he => cases hd; exact Or.inl ⟨st', h', he, rfl⟩
  refine Or.inr ?_
  split at hd
  · next v he => cases hd; exact Or.inl ⟨v, he, rfl⟩
  refine Or.inr ?_
  split at hd
  · next st' he => cases hd; exact Or.inl ⟨st', he, rfl⟩
  refine Or.inr ?_
  split at hd
  · next t st' he => cases hd; exact Or.inl ⟨t, st', he, rfl⟩
  refine Or.inr ?_
  split at hd
  · next E he => cases hd; exact Or.inl ⟨E, he, rfl⟩
  refine Or.inr ?_
  split at hd
  · next y as r he =>
    split at hd
    · cases hd
    · next hcs =>
      split at hd
      · cases hd
      · next d' =>
        split at hd
        · next v h' hx => cases hd; exact ⟨y, as, r, d', _, h', he, hcs, rfl, hx, Or.inl ⟨v, rfl, rfl⟩⟩
        · next E h' hx =>
          split at hd
          · next p k hf =>
            split at hd
            · next hk => cases hd; exact ⟨y, as, r, d', _, h', he, hcs, rfl, hx, Or.inr (Or.inl ⟨E, p, k, rfl, hf, hk, rfl⟩)⟩
            · cases hd
          · next hf => cases hd; exact ⟨y, as, r, d', _, h', he, hcs, rfl, hx, Or.inr (Or.inr ⟨E, rfl, hf, rfl⟩)⟩
        · cases hd
  · cases hd
/-- what a call of the machine by fuel comes to -/
def P_cal (Y : P_Y) (n d' y' : Nat) (as : List Value) (h' : P_H) : Option (P_R × P_H) := if y' = 0 then none else match Y.2.2.1 y' with
  | none => none
  | some (mx', _) => if (P_args as).length ≤ mx' then P_ex Y n d' y' (0, P_fit mx' (P_args as), [], h') else none
theorem P_ex_inv {Y : P_Y} {n d y pc : Nat} {L st : List Value} {h : P_H} {x : P_R × P_H} (hx : P_ex Y (n + 1) d y (pc, L, st, h) = some x) : ∃ mx rt cd hs i nx r1 r2 kN kT o, Y.2.2.1 y = some (mx, rt, cd, hs) ∧ cd pc = some (i, nx, r1, r2, kN, kT) ∧ P_do Y (P_cal Y n) d rt hs pc L st h i nx r1 r2 kN kT = some o ∧ ((∃ s, o = .inl s ∧ P_ex Y n d y s = some x) ∨ o = .inr x) := by
  unfold P_ex at hx
  split at hx
  · cases hx
  · next mx rt cd hs hy =>
    split at hx
    · cases hx
    · next i nx r1 r2 kN kT hc =>
      refine ⟨mx, rt, cd, hs, i, nx, r1, r2, kN, kT, ?_⟩
      split at hx
      · next s hd => exact ⟨_, hy, hc, hd, Or.inl ⟨s, rfl, hx⟩⟩
      · next r hd => cases hx; exact ⟨_, hy, hc, hd, Or.inr rfl⟩
      · cases hx
theorem P_ex_mono {Y : P_Y} : ∀ (n d y : Nat) (S : P_S) (r : P_R) (h1 : P_H), P_ex Y n d y S = some (r, h1) → S.2.2.2.2.1 ≤ h1.2.1 ∧ S.2.2.2.2.2 ≤ h1.2.2 := by
  intro n
  induction n with
  | zero => intro d y S r h1 hx; cases hx
  | succ n ih =>
    rintro d y ⟨pc, L, st, h⟩ r h1 hx
    obtain ⟨mx, rt, cd, hs, i, nx, r1, r2, kN, kT, o, hy, hc, hd, ho⟩ := P_ex_inv hx
    have hcal : ∀ d' y' as h' x h2, P_cal Y n d' y' as h' = some (x, h2) → h'.2.1 ≤ h2.2.1 ∧ h'.2.2 ≤ h2.2.2 := by
      intro d' y' as h' x h2 he
      unfold P_cal at he
      split at he
      · cases he
      split at he
      · cases he
      · split at he
        · exact ih _ _ _ _ _ he
        · cases he
    have key : (∃ pc' L' st' h', o = .inl (pc', L', st', h') ∧ h.2.1 ≤ h'.2.1 ∧ h.2.2 ≤ h'.2.2) ∨ (∃ r' h', o = .inr (r', h') ∧ h.2.1 ≤ h'.2.1 ∧ h.2.2 ≤ h'.2.2) := by
      rcases P_do_inv hd with ⟨L', st', -, rfl⟩ | ⟨j, st', -, rfl⟩ | ⟨st', h', he, rfl⟩ | ⟨v, -, rfl⟩ | ⟨st', -, rfl⟩ | ⟨t, st', -, rfl⟩ | ⟨E, -, rfl⟩ | ⟨y2, as, r2', d', x, h', -, -, -, he, ⟨v, -, rfl⟩ | ⟨E, p, k, -, -, -, rfl⟩ | ⟨E, -, -, rfl⟩⟩
      · exact Or.inl ⟨_, _, _, _, rfl, Nat.le_refl _, Nat.le_refl _⟩
      · exact Or.inl ⟨_, _, _, _, rfl, Nat.le_refl _, Nat.le_refl _⟩
      · exact Or.inl ⟨_, _, _, _, rfl, P_hp_mono he⟩
      · exact Or.inr ⟨_, _, rfl, Nat.le_refl _, Nat.le_refl _⟩
      · exact Or.inl ⟨_, _, _, _, rfl, Nat.le_refl _, Nat.le_refl _⟩
      · exact Or.inl ⟨_, _, _, _, rfl, Nat.le_refl _, Nat.le_refl _⟩
      · exact Or.inr ⟨_, _, rfl, Nat.le_succ _, Nat.le_add_right _ _⟩
      · exact Or.inl ⟨_, _, _, _, rfl, hcal _ _ _ _ _ _ he⟩
      · exact Or.inl ⟨_, _, _, _, rfl, hcal _ _ _ _ _ _ he⟩
      · exact Or.inr ⟨_, _, rfl, hcal _ _ _ _ _ _ he⟩
    rcases key with ⟨pc', L', st', h', rfl, k1, k2⟩ | ⟨r', h', rfl, k1, k2⟩
    · rcases ho with ⟨s, hs', hx'⟩ | hq
      · cases hs'
        have := ih _ _ _ _ _ hx'
        exact ⟨Nat.le_trans k1 this.1, Nat.le_trans k2 this.2⟩
      · cases hq
    · rcases ho with ⟨s, hs', -⟩ | hq
      · cases hs'
      · cases hq
        exact ⟨k1, k2⟩
