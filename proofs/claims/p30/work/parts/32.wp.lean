/-! RUNS: what is proved of a run of the pure machine, without fuel -/
/-- more fuel, the same answer -/
theorem P_do_le {Y : P_Y} {ex ex' : Nat → Nat → List Value → P_H → Option (P_R × P_H)} (hle : ∀ d y as h x, ex d y as h = some x → ex' d y as h = some x) {d : Nat} {rt : Option FieldType} {hs : List (Nat × Nat × Nat × Nat × Nat)} {pc : Nat} {L st : List Value} {h : P_H} {i : Instr} {nx : Nat} {r1 : Int} {r2 : Nat} {kN kT : List Nat} {o : P_S ⊕ (P_R × P_H)} (hd : P_do Y ex d rt hs pc L st h i nx r1 r2 kN kT = some o) : P_do Y ex' d rt hs pc L st h i nx r1 r2 kN kT = some o := by
  unfold P_do at hd ⊢
  split at hd
  · exact hd
  split at hd
  · exact hd
  · exact hd
  split at hd
  · exact hd
  split at hd
  · exact hd
  split at hd
  · exact hd
  split at hd
  · exact hd
  split at hd
  · exact hd
  split at hd
  · split at hd
    · cases hd
    · next hcs =>
      rw [if_neg hcs]
      split at hd
      · cases hd
      · next d' =>
        split at hd
        · next v h' hx => rw [hle _ _ _ _ _ hx]; exact hd
        · next E h' hx => rw [hle _ _ _ _ _ hx]; exact hd
        · cases hd
  · cases hd
theorem P_ex_of {Y : P_Y} {n d y pc mx : Nat} {rt : Option FieldType} {cd : Nat → Option P_I} {hs : List (Nat × Nat × Nat × Nat × Nat)} {L st : List Value} {h : P_H} {i : Instr} {nx : Nat} {r1 : Int} {r2 : Nat} {kN kT : List Nat} {o : P_S ⊕ (P_R × P_H)} {x : P_R × P_H} (hy : Y.2.2.1 y = some (mx, rt, cd, hs)) (hc : cd pc = some (i, nx, r1, r2, kN, kT)) (hd : P_do Y (P_cal Y n) d rt hs pc L st h i nx r1 r2 kN kT = some o) (ho : (∃ s, o = .inl s ∧ P_ex Y n d y s = some x) ∨ o = .inr x) : P_ex Y (n + 1) d y (pc, L, st, h) = some x := by
  unfold P_ex
  rw [hy]
  simp only [hc]
  have hd2 := hd
  unfold P_cal at hd2
  rcases ho with ⟨s, rfl, h4⟩ | rfl
  · split
    · next s' hq => cases hq.symm.trans hd2; exact h4
    · next r' hq => cases hq.symm.trans hd2
    · next hq => cases hq.symm.trans hd2
  · split
    · next s' hq => cases hq.symm.trans hd2
    · next r' hq => cases hq.symm.trans hd2; rfl
    · next hq => cases hq.symm.trans hd2
theorem P_ex_succ {Y : P_Y} : ∀ (n d y : Nat) (S : P_S) (x : P_R × P_H), P_ex Y n d y S = some x → P_ex Y (n + 1) d y S = some x := by
  intro n
  induction n with
  | zero => intro d y S x h; cases h
  | succ n ih =>
    rintro d y ⟨pc, L, st, h⟩ x hx
    obtain ⟨mx, rt, cd, hs, i, nx, r1, r2, kN, kT, o, hy, hc, hd, ho⟩ := P_ex_inv hx
    have hcal : ∀ d' y' as h' x, P_cal Y n d' y' as h' = some x → P_cal Y (n + 1) d' y' as h' = some x := by
      intro d' y' as h' x he
      unfold P_cal at he ⊢
      split at he
      · cases he
      · next h0 =>
        rw [if_neg h0]
        split at he
        · cases he
        · split at he
          · next hl => rw [if_pos hl]; exact ih _ _ _ _ he
          · cases he
    refine P_ex_of hy hc (P_do_le hcal hd) ?_
    rcases ho with ⟨s, rfl, h4⟩ | rfl
    · exact Or.inl ⟨s, rfl, ih _ _ _ _ h4⟩
    · exact Or.inr rfl
theorem P_ex_le {Y : P_Y} {n m d y : Nat} {S : P_S} {x : P_R × P_H} (h : P_ex Y n d y S = some x) (hm : n ≤ m) : P_ex Y m d y S = some x := by
  obtain ⟨k, rfl⟩ : ∃ k, m = n + k := ⟨m - n, by omega⟩
  clear hm
  induction k with
  | zero => exact h
  | succ k ih => exact P_ex_succ _ _ _ _ _ ih
/-- a run from S on comes to an end with Q -/
def P_wp (Y : P_Y) (d y : Nat) (S : P_S) (Q : P_R → P_H → Prop) : Prop := ∃ (n : Nat) (r : P_R) (h1 : P_H), P_ex Y n d y S = some (r, h1) ∧ Q r h1
/-- an instruction's place in a method -/
def P_in (Y : P_Y) (y pc : Nat) (rt : Option FieldType) (hs : List (Nat × Nat × Nat × Nat × Nat)) (i : Instr) (nx : Nat) (r1 : Int) (r2 : Nat) (kN kT : List Nat) : Prop := ∃ mx cd, Y.2.2.1 y = some (mx, rt, cd, hs) ∧ cd pc = some (i, nx, r1, r2, kN, kT)
section WP
variable {Y : P_Y} {d y pc : Nat} {rt : Option FieldType} {hs : List (Nat × Nat × Nat × Nat × Nat)} {i : Instr} {nx : Nat} {r1 : Int} {r2 : Nat} {kN kT : List Nat} {L L' st st' : List Value} {h h' : P_H} {Q : P_R → P_H → Prop}
theorem P_wp_mono {S : P_S} {Q' : P_R → P_H → Prop} (hw : P_wp Y d y S Q) (hq : ∀ r h, Q r h → Q' r h) : P_wp Y d y S Q' := by
  obtain ⟨n, r, h1, a, b⟩ := hw
  exact ⟨n, r, h1, a, hq _ _ b⟩
theorem P_wp_step {S' : P_S} (hi : P_in Y y pc rt hs i nx r1 r2 kN kT) (hd : ∀ ex, P_do Y ex d rt hs pc L st h i nx r1 r2 kN kT = some (.inl S')) (k : P_wp Y d y S' Q) : P_wp Y d y (pc, L, st, h) Q := by
  obtain ⟨n, r, h1, a, b⟩ := k
  obtain ⟨mx, cd, g1, g2⟩ := hi
  exact ⟨n + 1, r, h1, P_ex_of g1 g2 (hd _) (Or.inl ⟨_, rfl, a⟩), b⟩
theorem P_wp_end {x : P_R × P_H} (hi : P_in Y y pc rt hs i nx r1 r2 kN kT) (hd : ∀ ex, P_do Y ex d rt hs pc L st h i nx r1 r2 kN kT = some (.inr x)) (hq : Q x.1 x.2) : P_wp Y d y (pc, L, st, h) Q := by
  obtain ⟨mx, cd, g1, g2⟩ := hi
  exact ⟨1, x.1, x.2, P_ex_of g1 g2 (hd _) (Or.inr rfl), hq⟩
/-- a call: the callee's run, then on -/
theorem P_wp_call {y2 mx2 : Nat} {m2 : Option FieldType × (Nat → Option P_I) × List (Nat × Nat × Nat × Nat × Nat)} {as r0 : List Value} (hi : P_in Y y pc rt hs i nx r1 r2 kN kT) (ho : P_op i r1 r2 L st = none) (hb : P_br i st = none) (hp : P_hp Y.1 Y.2.1 i r1 r2 st h = none) (hr : P_ret rt i st = none) (hj : P_jdk i r2 st = none) (hsw : P_sw i pc st = none) (ht : P_thr i r2 st = none) (hv : P_inv Y.2.2.2 i r1 r2 st h = some (y2, as, r0)) (hcs : P_cs r0 ≤ 8) (h0 : y2 ≠ 0) (hm : Y.2.2.1 y2 = some (mx2, m2)) (hl : (P_args as).length ≤ mx2)
    (k : P_wp Y d y2 (0, P_fit mx2 (P_args as), [], h) (fun r h' => match r with
      | .inl v => P_wp Y (d + 1) y (nx, P_kill L kN, v.toList ++ r0, h') Q
      | .inr E => match P_find E pc hs with
        | some (p, kk) => kk < L.length ∧ P_wp Y (d + 1) y (p, P_st1 L kk P_un, [], h') Q
        | none => Q (.inr E) h')) : P_wp Y (d + 1) y (pc, L, st, h) Q := by
  obtain ⟨n, r, h1, a, b⟩ := k
  obtain ⟨mx, cd, g1, g2⟩ := hi
  have hcal : ∀ m, n ≤ m → P_cal Y m d y2 as h = some (r, h1) := by
    intro m hm'
    unfold P_cal
    rw [if_neg h0, hm]
    simp only
    rw [if_pos hl]
    exact P_ex_le a hm'
  have hdo : ∀ m, n ≤ m → P_do Y (P_cal Y m) (d + 1) rt hs pc L st h i nx r1 r2 kN kT = (match (some (r, h1) : Option (P_R × P_H)) with
      | some (.inl v, h') => some (.inl (nx, P_kill L kN, v.toList ++ r0, h'))
      | some (.inr E, h') => match P_find E pc hs with
        | some (p, k) => if k < L.length then some (.inl (p, P_st1 L k P_un, [], h')) else none
        | none => some (.inr (.inr E, h'))
      | none => none) := by
    intro m hm'
    unfold P_do
    rw [ho]; simp only; rw [hb]; simp only; rw [hp]; simp only; rw [hr]; simp only; rw [hj]; simp only; rw [hsw]; simp only; rw [ht]; simp only; rw [hv]; simp only
    rw [if_neg (by omega), hcal m hm']
    rcases r with v | E
    · rfl
    · simp only
      cases P_find E pc hs <;> rfl
  rcases r with v | E
  · obtain ⟨n2, r2', h2, a2, b2⟩ := b
    exact ⟨n + n2 + 1, r2', h2, P_ex_of g1 g2 (hdo (n + n2) (by omega)) (Or.inl ⟨_, rfl, P_ex_le a2 (by omega)⟩), b2⟩
  · simp only at b
    cases hf : P_find E pc hs with
    | none =>
      rw [hf] at b
      have hd1 := hdo n (Nat.le_refl _)
      simp only [hf] at hd1
      exact ⟨n + 1, .inr E, h1, P_ex_of g1 g2 hd1 (Or.inr rfl), b⟩
    | some pk =>
      rw [hf] at b
      obtain ⟨hk, n2, r2', h2, a2, b2⟩ := b
      have hd1 := hdo (n + n2) (by omega)
      simp only [hf, if_pos hk] at hd1
      exact ⟨n + n2 + 1, r2', h2, P_ex_of g1 g2 hd1 (Or.inl ⟨_, rfl, P_ex_le a2 (by omega)⟩), b2⟩
end WP
/-- a run along a path that is told ahead: at a jump or a switch 'none' goes by its own outcome, 'some' by what is told, with that as a condition -/
def P_tw (Y : P_Y) : Nat → Nat → Nat → P_S → List (Option Nat) → (P_R → P_H → List (Option Nat) → Prop) → Prop
  | 0, _, _, _, _, _ => False
  | n + 1, d, y, (pc, L, st, h), bs, Q => match Y.2.2.1 y with
    | none => False
    | some (_, rt, cd, hs) => match cd pc with
      | none => False
      | some (i, nx, r1, r2, kN, kT) => match P_br i st with
        | some (j, st') => match bs with
          | [] => False
          | none :: bs' => match j with
            | true => P_tw Y n d y (r2, P_kill L kT, st', h) bs' Q
            | false => P_tw Y n d y (nx, P_kill L kN, st', h) bs' Q
          | some 0 :: bs' => j = false ∧ P_tw Y n d y (nx, P_kill L kN, st', h) bs' Q
          | some (_ + 1) :: bs' => j = true ∧ P_tw Y n d y (r2, P_kill L kT, st', h) bs' Q
        | none => match P_isw i with
          | true => match bs with
            | some t :: bs' => P_sw i pc st = some (t, st.tail) ∧ P_tw Y n d y (t, L, st.tail, h) bs' Q
            | _ => False
          | false => match P_inv Y.2.2.2 i r1 r2 st h with
            | some (y2, as, r0) => match d with
              | 0 => False
              | d' + 1 => match y2 with
                | 0 => False
                | y' + 1 => match Y.2.2.1 (y' + 1) with
                  | none => False
                  | some (mx2, _) => match decide ((P_args as).length ≤ mx2 ∧ P_cs r0 ≤ 8) with
                    | false => False
                    | true => P_tw Y n d' (y' + 1) (0, P_fit mx2 (P_args as), [], h) bs (fun r h' bs' => match r with
                      | .inl v => P_tw Y n (d' + 1) y (nx, P_kill L kN, v.toList ++ r0, h') bs' Q
                      | .inr E => match P_find E pc hs with
                        | some (p, kk) => match decide (kk < L.length) with
                          | true => P_tw Y n (d' + 1) y (p, P_st1 L kk P_un, [], h') bs' Q
                          | false => False
                        | none => Q (.inr E) h' bs')
            | none => match P_do Y (fun _ _ _ _ => none) d rt hs pc L st h i nx r1 r2 kN kT with
              | some (.inl S') => P_tw Y n d y S' bs Q
              | some (.inr (r, h')) => Q r h' bs
              | none => False
section TW
variable {Y : P_Y} {rt : Option FieldType} {r1 : Int} {r2 pc : Nat} {L st : List Value} {h : P_H}
theorem P_br_none {i : Instr} {x : Bool × List Value} (hb : P_br i st = some x) : P_op i r1 r2 L st = none := by
  cases i <;> first | rfl | cases hb
theorem P_isw_none {i : Instr} (hb : P_isw i = true) : P_op i r1 r2 L st = none ∧ P_br i st = none ∧ (∀ Z nro, P_hp Z nro i r1 r2 st h = none) ∧ P_ret rt i st = none ∧ P_jdk i r2 st = none := by
  cases i <;> first | (simp [P_isw] at hb; done) | skip
  refine ⟨rfl, rfl, fun _ _ => rfl, ?_, rfl⟩
  cases rt <;> rfl
theorem P_inv_none {i : Instr} {V : Nat → Nat → Option Nat} {x : Nat × List Value × List Value} (hv : P_inv V i r1 r2 st h = some x) : P_op i r1 r2 L st = none ∧ P_br i st = none ∧ (∀ Z nro, P_hp Z nro i r1 r2 st h = none) ∧ P_ret rt i st = none ∧ P_jdk i r2 st = none ∧ P_sw i pc st = none ∧ P_thr i r2 st = none := by
  unfold P_inv at hv
  split at hv
  · next idx =>
    split at hv
    · next hc =>
      refine ⟨rfl, rfl, fun _ _ => by unfold P_hp; simp only; rw [if_neg (by omega)], by cases rt <;> rfl, ?_, rfl, rfl⟩
      unfold P_jdk
      simp only
      split
      · rw [if_neg (show ¬ r2 = 9001 by omega), if_neg (show ¬ r2 = 9002 by omega)]
        split <;> rfl
      · rfl
    · cases hv
  · next idx =>
    split at hv
    · next hc =>
      refine ⟨rfl, rfl, fun _ _ => rfl, by cases rt <;> rfl, ?_, rfl, rfl⟩
      unfold P_jdk
      simp only
      rw [if_neg (show ¬ r2 = 9000 by omega)]
    · cases hv
  · next idx => exact ⟨rfl, rfl, fun _ _ => rfl, by cases rt <;> rfl, rfl, rfl, rfl⟩
  · cases hv
theorem P_tw_ok : ∀ (n d y : Nat) (S : P_S) (bs : List (Option Nat)) (Q : P_R → P_H → List (Option Nat) → Prop), P_tw Y n d y S bs Q → P_wp Y d y S (fun r h => ∃ bs', Q r h bs') := by
  intro n
  induction n with
  | zero => intro d y S bs Q hw; exact hw.elim
  | succ n ih =>
    rintro d y ⟨pc, L, st, h⟩ bs Q hw
    unfold P_tw at hw
    split at hw
    · exact hw.elim
    next mx rt cd hs hy =>
    split at hw
    · exact hw.elim
    next i nx r1 r2 kN kT hc =>
    have hin : P_in Y y pc rt hs i nx r1 r2 kN kT := ⟨mx, cd, hy, hc⟩
    split at hw
    · next j st' hb =>
      have hdo : ∀ ex, P_do Y ex d rt hs pc L st h i nx r1 r2 kN kT = some (.inl (if j = true then r2 else nx, P_kill L (if j = true then kT else kN), st', h)) := by
        intro ex
        unfold P_do
        rw [P_br_none hb]; simp only; rw [hb]
        cases j <;> rfl
      split at hw
      · exact hw.elim
      · split at hw
        · exact P_wp_step hin hdo (ih _ _ _ _ _ hw)
        · exact P_wp_step hin hdo (ih _ _ _ _ _ hw)
      · obtain ⟨rfl, hw⟩ := hw
        exact P_wp_step hin hdo (ih _ _ _ _ _ hw)
      · obtain ⟨rfl, hw⟩ := hw
        exact P_wp_step hin hdo (ih _ _ _ _ _ hw)
    · next hb =>
      split at hw
      · next hsw =>
        split at hw
        · obtain ⟨g1, hw⟩ := hw
          obtain ⟨a1, a2, a3, a4, a5⟩ := P_isw_none (rt := rt) (r1 := r1) (r2 := r2) (L := L) (st := st) (h := h) hsw
          refine P_wp_step hin (fun ex => ?_) (ih _ _ _ _ _ hw)
          unfold P_do
          rw [a1]; simp only; rw [a2]; simp only; rw [a3]; simp only; rw [a4]; simp only; rw [a5]; simp only; rw [g1]
        · exact hw.elim
      · split at hw
        · next y2 as r0 hv =>
          obtain ⟨a1, a2, a3, a4, a5, a6, a7⟩ := P_inv_none (rt := rt) (pc := pc) (L := L) hv
          split at hw
          · exact hw.elim
          next d' =>
          split at hw
          · exact hw.elim
          next y' =>
          split at hw
          · exact hw.elim
          next mx2 m2 hm2 =>
          split at hw
          · exact hw.elim
          next hdec =>
          have hdec := of_decide_eq_true hdec
          refine P_wp_call hin a1 a2 (a3 _ _) a4 a5 a6 a7 hv hdec.2 (Nat.succ_ne_zero _) hm2 hdec.1 (P_wp_mono (ih _ _ _ _ _ hw) ?_)
          rintro (v | E) h' ⟨bs', hq⟩
          · exact ih _ _ _ _ _ hq
          · simp only at hq ⊢
            split at hq
            · next p kk hf =>
              split at hq
              · next hk => exact ⟨of_decide_eq_true hk, ih _ _ _ _ _ hq⟩
              · exact hq.elim
            · next hf => exact ⟨bs', hq⟩
        · next hv =>
          split at hw
          · next S' hd => exact P_wp_step hin (fun ex => P_do_le (fun _ _ _ _ _ q => by cases q) hd) (ih _ _ _ _ _ hw)
          · next r h' hd => exact P_wp_end hin (fun ex => P_do_le (fun _ _ _ _ _ q => by cases q) hd) ⟨bs, hw⟩
          · exact hw.elim
end TW
