/-! THE TIE, 3: jumps -/
section BR
variable {p : Program} {l : Launch} {e : Env} {R : Room} {s : State} {m : MethodId} {args : Array Value} {below : List Frame} {meth : Method} {c : Code} {H : Heap} {locs : List Loc} {cells slots : Nat} {Q : State → Prop} {cc : ByteArray} {pc nL : Nat} {ls : Array Slot} {rest : List Value} {ρ : List Nat} {L L1 st st1 st' : List Value}
def P_off (i : Instr) : Option Int := match i with
  | .goto o => some o
  | .ifCond _ o => some o
  | .if_icmp _ o => some o
  | .ifnull o => some o
  | .ifnonnull o => some o
  | _ => none
set_option maxHeartbeats 4000000 in
theorem P_br_ok (hx : p.tables.exec = Jvm.exec) (hb : c.code = cc) {i : Instr} {tgt : Nat} {j : Bool} (hdg : decode cc pc = .ok (i, P_len i)) (ht : ∀ o, P_off i = some o → (pc : Int) + o = (tgt : Int)) (hst : P_vs ρ st st') (h : P_br i st = some (j, st1))
    (k : ∀ ws : List Value, P_vs ρ st1 ws → W p l e R s m args below meth c H locs cells slots Q (F0 m (if j = true then tgt else pc + P_len i) ls ws)) : W p l e R s m args below meth c H locs cells slots Q (F0 m pc ls st') := by
  cases i with
  | goto o =>
    cases h
    exact lv_goto hx hb hdg (ht o rfl) (k _ hst)
  | ifnull o =>
    simp only [P_br] at h
    split at h
    · cases h
      obtain ⟨w, ws, rfl, ⟨q, h2, rfl⟩, h3⟩ := P_vs_cons hst
      exact lv_ifnull hx hb hdg (k _ h3)
    · cases h
      obtain ⟨w, ws, rfl, h2, h3⟩ := P_vs_cons hst
      cases h2
      exact lv_ifnullN hx hb hdg (ht o rfl) (k _ h3)
    · cases h
  | ifnonnull o =>
    simp only [P_br] at h
    split at h
    · cases h
      obtain ⟨w, ws, rfl, ⟨q, h2, rfl⟩, h3⟩ := P_vs_cons hst
      exact lv_ifnonnull hx hb hdg (ht o rfl) (k _ h3)
    · cases h
      obtain ⟨w, ws, rfl, h2, h3⟩ := P_vs_cons hst
      cases h2
      exact lv_ifnonnullN hx hb hdg (k _ h3)
    · cases h
  | ifCond cd o =>
    simp only [P_br] at h
    split at h
    · next x r =>
      cases h
      obtain ⟨w, ws, rfl, h2, h3⟩ := P_vs_cons hst
      cases h2
      have k := k _ h3
      cases cd with
      | eq => exact lv_if_eq hx hb hdg (ht o rfl) (fun q => by rwa [if_pos (show P_cc .eq x 0 = true from decide_eq_true q)] at k) (fun q => by rwa [if_neg (show ¬ P_cc .eq x 0 = true from fun z => q (of_decide_eq_true z))] at k)
      | ne => exact lv_if_ne hx hb hdg (ht o rfl) (fun q => by rwa [if_pos (show P_cc .ne x 0 = true from decide_eq_true q)] at k) (fun q => by rwa [if_neg (show ¬ P_cc .ne x 0 = true from fun z => of_decide_eq_true z q)] at k)
      | lt => exact lv_if_lt hx hb hdg (ht o rfl) (fun q => by rwa [if_pos (show P_cc .lt x 0 = true from decide_eq_true q)] at k) (fun q => by rwa [if_neg (show ¬ P_cc .lt x 0 = true from fun z => q (of_decide_eq_true z))] at k)
      | ge => exact lv_if_ge hx hb hdg (ht o rfl) (fun q => by rwa [if_pos (show P_cc .ge x 0 = true from decide_eq_true q)] at k) (fun q => by rwa [if_neg (show ¬ P_cc .ge x 0 = true from fun z => q (of_decide_eq_true z))] at k)
      | gt => exact lv_if_gt hx hb hdg (ht o rfl) (fun q => by rwa [if_pos (show P_cc .gt x 0 = true from decide_eq_true q)] at k) (fun q => by rwa [if_neg (show ¬ P_cc .gt x 0 = true from fun z => q (of_decide_eq_true z))] at k)
      | le => exact lv_if_le hx hb hdg (ht o rfl) (fun q => by rwa [if_pos (show P_cc .le x 0 = true from decide_eq_true q)] at k) (fun q => by rwa [if_neg (show ¬ P_cc .le x 0 = true from fun z => q (of_decide_eq_true z))] at k)
    · cases h
  | if_icmp cd o =>
    simp only [P_br] at h
    split at h
    · next y x r =>
      cases h
      obtain ⟨w, ws, rfl, h2, h3⟩ := P_vs_cons hst
      obtain ⟨w2, ws2, rfl, h4, h5⟩ := P_vs_cons h3
      cases h2; cases h4
      have k := k _ h5
      cases cd with
      | eq => exact lv_icmp_eq hx hb hdg (ht o rfl) (fun q => by rwa [if_pos (show P_cc .eq x y = true from decide_eq_true q)] at k) (fun q => by rwa [if_neg (show ¬ P_cc .eq x y = true from fun z => q (of_decide_eq_true z))] at k)
      | ne => exact lv_icmp_ne hx hb hdg (ht o rfl) (fun q => by rwa [if_pos (show P_cc .ne x y = true from decide_eq_true q)] at k) (fun q => by rwa [if_neg (show ¬ P_cc .ne x y = true from fun z => of_decide_eq_true z q)] at k)
      | lt => exact lv_icmp_lt hx hb hdg (ht o rfl) (fun q => by rwa [if_pos (show P_cc .lt x y = true from decide_eq_true q)] at k) (fun q => by rwa [if_neg (show ¬ P_cc .lt x y = true from fun z => q (of_decide_eq_true z))] at k)
      | ge => exact lv_icmp_ge hx hb hdg (ht o rfl) (fun q => by rwa [if_pos (show P_cc .ge x y = true from decide_eq_true q)] at k) (fun q => by rwa [if_neg (show ¬ P_cc .ge x y = true from fun z => q (of_decide_eq_true z))] at k)
      | gt => exact lv_icmp_gt hx hb hdg (ht o rfl) (fun q => by rwa [if_pos (show P_cc .gt x y = true from decide_eq_true q)] at k) (fun q => by rwa [if_neg (show ¬ P_cc .gt x y = true from fun z => q (of_decide_eq_true z))] at k)
      | le => exact lv_icmp_le hx hb hdg (ht o rfl) (fun q => by rwa [if_pos (show P_cc .le x y = true from decide_eq_true q)] at k) (fun q => by rwa [if_neg (show ¬ P_cc .le x y = true from fun z => q (of_decide_eq_true z))] at k)
    · cases h
  | _ => cases h
theorem P_sw_ok (hx : p.tables.exec = Jvm.exec) (hb : c.code = cc) {i : Instr} {t len : Nat} (hdg : decode cc pc = .ok (i, len)) (hst : P_vs ρ st st') (h : P_sw i pc st = some (t, st1)) (hpos : ∀ dflt lo hi offs, i = .tableswitch dflt lo hi offs → 0 ≤ (pc : Int) + dflt ∧ ∀ o ∈ offs.toList, 0 ≤ (pc : Int) + o)
    (k : ∀ ws : List Value, P_vs ρ st1 ws → W p l e R s m args below meth c H locs cells slots Q (F0 m t ls ws)) : W p l e R s m args below meth c H locs cells slots Q (F0 m pc ls st') := by
  cases i with
  | tableswitch dflt lo hi offs =>
    obtain ⟨hd, ho⟩ := hpos _ _ _ _ rfl
    simp only [P_sw] at h
    split at h
    · next x r =>
      obtain ⟨w, ws, rfl, h2, h3⟩ := P_vs_cons hst
      cases h2
      split at h
      · next hq =>
        cases h
        exact lv_tableOut hx hb hdg hq (Int.toNat_of_nonneg hd).symm (k _ h3)
      · next hq =>
        split at h
        · next off hoff =>
          cases h
          have hm : off ∈ offs.toList := by
            obtain ⟨hlt, he⟩ := Array.getElem?_eq_some_iff.mp hoff
            rw [← he]
            exact Array.getElem_mem_toList hlt
          exact lv_tableIn hx hb hdg (fun q => hq (Or.inl q)) (fun q => hq (Or.inr q)) hoff (Int.toNat_of_nonneg (ho _ hm)).symm (k _ h3)
        · cases h
    · cases h
  | _ => cases h
end BR
