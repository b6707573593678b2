/-! STEPS of a run of the pure machine, in the forms that written-out runs take -/
section ST
variable {Y : P_Y} {d y pc : Nat} {rt : Option FieldType} {hs : List (Nat × Nat × Nat × Nat × Nat)} {nx : Nat} {r1 : Int} {r2 : Nat} {kN kT : List Nat} {L st : List Value} {h : P_H} {Q : P_R → P_H → Prop}
theorem P_wp_ict {c : ClassFile.Cond} {o : Int} {u v : Int32} (hi : P_in Y y pc rt hs (.if_icmp c o) nx r1 r2 kN kT) (hj : P_cc c u v = true) (k : P_wp Y d y (r2, P_kill L kT, st, h) Q) : P_wp Y d y (pc, L, .int v :: .int u :: st, h) Q := by
  refine P_wp_step hi (fun ex => ?_) k
  unfold P_do
  simp only [P_op, P_br, hj]
theorem P_wp_icf {c : ClassFile.Cond} {o : Int} {u v : Int32} (hi : P_in Y y pc rt hs (.if_icmp c o) nx r1 r2 kN kT) (hj : P_cc c u v = false) (k : P_wp Y d y (nx, P_kill L kN, st, h) Q) : P_wp Y d y (pc, L, .int v :: .int u :: st, h) Q := by
  refine P_wp_step hi (fun ex => ?_) k
  unfold P_do
  simp only [P_op, P_br, hj]
theorem P_wp_izt {c : ClassFile.Cond} {o : Int} {u : Int32} (hi : P_in Y y pc rt hs (.ifCond c o) nx r1 r2 kN kT) (hj : P_cc c u 0 = true) (k : P_wp Y d y (r2, P_kill L kT, st, h) Q) : P_wp Y d y (pc, L, .int u :: st, h) Q := by
  refine P_wp_step hi (fun ex => ?_) k
  unfold P_do
  simp only [P_op, P_br, hj]
theorem P_wp_izf {c : ClassFile.Cond} {o : Int} {u : Int32} (hi : P_in Y y pc rt hs (.ifCond c o) nx r1 r2 kN kT) (hj : P_cc c u 0 = false) (k : P_wp Y d y (nx, P_kill L kN, st, h) Q) : P_wp Y d y (pc, L, .int u :: st, h) Q := by
  refine P_wp_step hi (fun ex => ?_) k
  unfold P_do
  simp only [P_op, P_br, hj]
theorem P_sw_at {u v : Int32} (hu : u = v) (k : P_wp Y d y (pc, L, .int v :: st, h) Q) : P_wp Y d y (pc, L, .int u :: st, h) Q := by
  subst hu
  exact k
theorem P_do_lcmp {ex : Nat → Nat → List Value → P_H → Option (P_R × P_H)} {u v : Int64} {w : Int32} (hw : lg_cmp u v = w) : P_do Y ex d rt hs pc L (.long v :: .long u :: st) h .lcmp nx r1 r2 kN kT = some (.inl (nx, P_kill L kN, .int w :: st, h)) := by
  subst hw
  rfl
theorem P_do_dcmp {ex : Nat → Nat → List Value → P_H → Option (P_R × P_H)} {op : CmpOp} {u v : UInt64} {w : Int32} (hw : Op.cmpValue (FP.dcmp u v) op = w) : P_do Y ex d rt hs pc L (.double v :: .double u :: st) h (.dcmp op) nx r1 r2 kN kT = some (.inl (nx, P_kill L kN, .int w :: st, h)) := by
  subst hw
  rfl
theorem P_do_sw {ex : Nat → Nat → List Value → P_H → Option (P_R × P_H)} {df lo hi : Int} {offs : Array Int} {u : Int32} {t : Nat} (ht : (P_sw (.tableswitch df lo hi offs) pc [.int u]).map Prod.fst = some t) : P_do Y ex d rt hs pc L (.int u :: st) h (.tableswitch df lo hi offs) nx r1 r2 kN kT = some (.inl (t, L, st, h)) := by
  have hsw : P_sw (.tableswitch df lo hi offs) pc (.int u :: st) = some (t, st) := by
    unfold P_sw at ht ⊢
    simp only at ht ⊢
    split at ht
    · next hq => rw [if_pos hq]; cases ht; rfl
    · next hq =>
      rw [if_neg hq]
      split at ht
      · cases ht; rfl
      · cases ht
  obtain ⟨a1, a2, a3, a4, a5⟩ := P_isw_none (i := .tableswitch df lo hi offs) (rt := rt) (r1 := r1) (r2 := r2) (L := L) (st := .int u :: st) (h := h) rfl
  unfold P_do
  rw [a1]; simp only; rw [a2]; simp only; rw [a3]; simp only; rw [a4]; simp only; rw [a5]; simp only; rw [hsw]
end ST
