/-! TABLES of this claim, written by wip/gen.py: names -/
def RX0 : String := "OrchardQuery$Answer"
def TX0 : u_T := fun k => match k with
  | 0 => ("OrchardQuery$Walk", "form", "LOrchardQuery$Form;", true)
  | 1 => ("OrchardQuery$Walk", "plan", "LOrchardQuery$Plan;", true)
  | 2 => ("OrchardQuery$Walk", "rows", "[I", true)
  | 3 => ("OrchardQuery$Walk", "without", "I", false)
  | 4 => ("OrchardQuery$Walk", "most", "I", false)
  | 5 => ("OrchardQuery$Walk", "reads", "I", false)
  | 6 => ("OrchardQuery$Walk", "checks", "I", false)
  | 7 => ("OrchardQuery$Walk", "meetings", "I", false)
  | 8 => ("OrchardQuery$Answer", "groups", "LOrchardQuery$Groups;", true)
  | 9 => ("OrchardQuery$Answer", "found", "[I", true)
  | 10 => ("OrchardQuery$Answer", "readsAt", "[I", true)
  | 11 => ("OrchardQuery$Answer", "checksAt", "[I", true)
  | 12 => ("OrchardQuery$Answer", "keys", "[I", true)
  | 13 => ("OrchardQuery$Answer", "sorted", "[I", true)
  | 14 => ("OrchardQuery$Answer", "size", "I", false)
  | 15 => ("OrchardQuery$Answer", "resultCount", "I", false)
  | _ => ("OrchardQuery$Answer", "isKnown", "Z", false)
def tyX0 : Nat → FieldType := fun k => match k with
  | 0 => .object "OrchardQuery$Form"
  | 1 => .object "OrchardQuery$Plan"
  | 2 => .array .int
  | 3 => .int
  | 4 => .int
  | 5 => .int
  | 6 => .int
  | 7 => .int
  | 8 => .object "OrchardQuery$Groups"
  | 9 => .array .int
  | 10 => .array .int
  | 11 => .array .int
  | 12 => .array .int
  | 13 => .array .int
  | 14 => .int
  | 15 => .int
  | _ => .boolean
theorem nmX0 : ∀ a, a < 17 → ∀ b, b < 17 → a ≠ b → (TX0 a).2.1 ≠ (TX0 b).2.1 := by decide +kernel
theorem tyX0_ok : ∀ k, k < 17 → parseFieldDescriptor (TX0 k).2.2.1 = some (tyX0 k) := by decide +kernel
def RX1 : String := "OrchardQuery$Condition"
def TX1 : u_T := fun k => match k with
  | 0 => ("OrchardQuery$Condition", "left", "I", false)
  | 1 => ("OrchardQuery$Condition", "sign", "I", false)
  | 2 => ("OrchardQuery$Condition", "right", "I", false)
  | _ => ("OrchardQuery$Condition", "level", "I", false)
def tyX1 : Nat → FieldType := fun k => match k with
  | 0 => .int
  | 1 => .int
  | 2 => .int
  | _ => .int
theorem nmX1 : ∀ a, a < 4 → ∀ b, b < 4 → a ≠ b → (TX1 a).2.1 ≠ (TX1 b).2.1 := by decide +kernel
theorem tyX1_ok : ∀ k, k < 4 → parseFieldDescriptor (TX1 k).2.2.1 = some (tyX1 k) := by decide +kernel
def RX2 : String := "OrchardQuery$Count"
def TX2 : u_T := fun k => match k with
  | 0 => ("OrchardQuery$Walk", "form", "LOrchardQuery$Form;", true)
  | 1 => ("OrchardQuery$Walk", "plan", "LOrchardQuery$Plan;", true)
  | 2 => ("OrchardQuery$Walk", "rows", "[I", true)
  | 3 => ("OrchardQuery$Walk", "without", "I", false)
  | 4 => ("OrchardQuery$Walk", "most", "I", false)
  | 5 => ("OrchardQuery$Walk", "reads", "I", false)
  | 6 => ("OrchardQuery$Walk", "checks", "I", false)
  | _ => ("OrchardQuery$Walk", "meetings", "I", false)
def tyX2 : Nat → FieldType := fun k => match k with
  | 0 => .object "OrchardQuery$Form"
  | 1 => .object "OrchardQuery$Plan"
  | 2 => .array .int
  | 3 => .int
  | 4 => .int
  | 5 => .int
  | 6 => .int
  | _ => .int
theorem nmX2 : ∀ a, a < 8 → ∀ b, b < 8 → a ≠ b → (TX2 a).2.1 ≠ (TX2 b).2.1 := by decide +kernel
theorem tyX2_ok : ∀ k, k < 8 → parseFieldDescriptor (TX2 k).2.2.1 = some (tyX2 k) := by decide +kernel
def RX3 : String := "OrchardQuery$Form"
def TX3 : u_T := fun k => match k with
  | 0 => ("OrchardQuery$Form", "kinds", "[I", true)
  | 1 => ("OrchardQuery$Form", "columns", "[I", true)
  | 2 => ("OrchardQuery$Form", "tables", "[LOrchardQuery$Table;", true)
  | 3 => ("OrchardQuery$Form", "nowhere", "LOrchardQuery$Table;", true)
  | 4 => ("OrchardQuery$Form", "itemCount", "I", false)
  | 5 => ("OrchardQuery$Form", "seatCount", "I", false)
  | 6 => ("OrchardQuery$Form", "group", "I", false)
  | 7 => ("OrchardQuery$Form", "orderItem", "I", false)
  | _ => ("OrchardQuery$Form", "limit", "I", false)
def tyX3 : Nat → FieldType := fun k => match k with
  | 0 => .array .int
  | 1 => .array .int
  | 2 => .array (.object "OrchardQuery$Table")
  | 3 => .object "OrchardQuery$Table"
  | 4 => .int
  | 5 => .int
  | 6 => .int
  | 7 => .int
  | _ => .int
theorem nmX3 : ∀ a, a < 9 → ∀ b, b < 9 → a ≠ b → (TX3 a).2.1 ≠ (TX3 b).2.1 := by decide +kernel
theorem tyX3_ok : ∀ k, k < 9 → parseFieldDescriptor (TX3 k).2.2.1 = some (tyX3 k) := by decide +kernel
def RX4 : String := "OrchardQuery$Groups"
def TX4 : u_T := fun k => match k with
  | 0 => ("OrchardQuery$Groups", "form", "LOrchardQuery$Form;", true)
  | 1 => ("OrchardQuery$Groups", "counts", "[I", true)
  | 2 => ("OrchardQuery$Groups", "firsts", "[I", true)
  | _ => ("OrchardQuery$Groups", "sums", "[I", true)
def tyX4 : Nat → FieldType := fun k => match k with
  | 0 => .object "OrchardQuery$Form"
  | 1 => .array .int
  | 2 => .array .int
  | _ => .array .int
theorem nmX4 : ∀ a, a < 4 → ∀ b, b < 4 → a ≠ b → (TX4 a).2.1 ≠ (TX4 b).2.1 := by decide +kernel
theorem tyX4_ok : ∀ k, k < 4 → parseFieldDescriptor (TX4 k).2.2.1 = some (tyX4 k) := by decide +kernel
def RX5 : String := "OrchardQuery$Plan"
def TX5 : u_T := fun k => match k with
  | 0 => ("OrchardQuery$Plan", "form", "LOrchardQuery$Form;", true)
  | 1 => ("OrchardQuery$Plan", "conditions", "[LOrchardQuery$Condition;", true)
  | 2 => ("OrchardQuery$Plan", "nothing", "LOrchardQuery$Condition;", true)
  | 3 => ("OrchardQuery$Plan", "order", "[I", true)
  | 4 => ("OrchardQuery$Plan", "size", "I", false)
  | _ => ("OrchardQuery$Plan", "isNever", "Z", false)
def tyX5 : Nat → FieldType := fun k => match k with
  | 0 => .object "OrchardQuery$Form"
  | 1 => .array (.object "OrchardQuery$Condition")
  | 2 => .object "OrchardQuery$Condition"
  | 3 => .array .int
  | 4 => .int
  | _ => .boolean
theorem nmX5 : ∀ a, a < 6 → ∀ b, b < 6 → a ≠ b → (TX5 a).2.1 ≠ (TX5 b).2.1 := by decide +kernel
theorem tyX5_ok : ∀ k, k < 6 → parseFieldDescriptor (TX5 k).2.2.1 = some (tyX5 k) := by decide +kernel
def RX6 : String := "OrchardQuery$Pull"
def TX6 : u_T := fun k => match k with
  | 0 => ("OrchardQuery$Pull", "isBegun", "Z", false)
  | 1 => ("OrchardQuery$Pull", "pulled", "I", false)
  | 2 => ("OrchardQuery$Pull", "reads", "I", false)
  | _ => ("OrchardQuery$Pull", "checks", "I", false)
def tyX6 : Nat → FieldType := fun k => match k with
  | 0 => .boolean
  | 1 => .int
  | 2 => .int
  | _ => .int
theorem nmX6 : ∀ a, a < 4 → ∀ b, b < 4 → a ≠ b → (TX6 a).2.1 ≠ (TX6 b).2.1 := by decide +kernel
theorem tyX6_ok : ∀ k, k < 4 → parseFieldDescriptor (TX6 k).2.2.1 = some (tyX6 k) := by decide +kernel
def RX7 : String := "OrchardQuery$Query"
def TX7 : u_T := fun k => match k with
  | 0 => ("OrchardQuery$Query", "store", "LOrchardQuery$Store;", true)
  | 1 => ("OrchardQuery$Query", "form", "LOrchardQuery$Form;", true)
  | 2 => ("OrchardQuery$Query", "plan", "LOrchardQuery$Plan;", true)
  | 3 => ("OrchardQuery$Query", "tokens", "[I", true)
  | 4 => ("OrchardQuery$Query", "length", "I", false)
  | 5 => ("OrchardQuery$Query", "isRead", "Z", false)
  | 6 => ("OrchardQuery$Query", "fault", "I", false)
  | 7 => ("OrchardQuery$Query", "faultPlace", "I", false)
  | 8 => ("OrchardQuery$Query", "place", "I", false)
  | _ => ("OrchardQuery$Query", "orderPlace", "I", false)
def tyX7 : Nat → FieldType := fun k => match k with
  | 0 => .object "OrchardQuery$Store"
  | 1 => .object "OrchardQuery$Form"
  | 2 => .object "OrchardQuery$Plan"
  | 3 => .array .int
  | 4 => .int
  | 5 => .boolean
  | 6 => .int
  | 7 => .int
  | 8 => .int
  | _ => .int
theorem nmX7 : ∀ a, a < 10 → ∀ b, b < 10 → a ≠ b → (TX7 a).2.1 ≠ (TX7 b).2.1 := by decide +kernel
theorem tyX7_ok : ∀ k, k < 10 → parseFieldDescriptor (TX7 k).2.2.1 = some (tyX7 k) := by decide +kernel
def RX8 : String := "OrchardQuery$Store"
def TX8 : u_T := fun k => match k with
  | 0 => ("OrchardQuery$Store", "tables", "[LOrchardQuery$Table;", true)
  | 1 => ("OrchardQuery$Store", "nowhere", "LOrchardQuery$Table;", true)
  | _ => ("OrchardQuery$Store", "size", "I", false)
def tyX8 : Nat → FieldType := fun k => match k with
  | 0 => .array (.object "OrchardQuery$Table")
  | 1 => .object "OrchardQuery$Table"
  | _ => .int
theorem nmX8 : ∀ a, a < 3 → ∀ b, b < 3 → a ≠ b → (TX8 a).2.1 ≠ (TX8 b).2.1 := by decide +kernel
theorem tyX8_ok : ∀ k, k < 3 → parseFieldDescriptor (TX8 k).2.2.1 = some (tyX8 k) := by decide +kernel
def RX9 : String := "OrchardQuery$Table"
def TX9 : u_T := fun k => match k with
  | 0 => ("OrchardQuery$Table", "columns", "I", true)
  | 1 => ("OrchardQuery$Table", "cells", "[I", true)
  | 2 => ("OrchardQuery$Table", "varieties", "[I", true)
  | _ => ("OrchardQuery$Table", "rows", "I", false)
def tyX9 : Nat → FieldType := fun k => match k with
  | 0 => .int
  | 1 => .array .int
  | 2 => .array .int
  | _ => .int
theorem nmX9 : ∀ a, a < 4 → ∀ b, b < 4 → a ≠ b → (TX9 a).2.1 ≠ (TX9 b).2.1 := by decide +kernel
theorem tyX9_ok : ∀ k, k < 4 → parseFieldDescriptor (TX9 k).2.2.1 = some (tyX9 k) := by decide +kernel
def RX11 : String := "OrchardQuery"
def TX11 : u_T := fun k => match k with
  | 0 => ("OrchardQuery", "store", "LOrchardQuery$Store;", true)
  | 1 => ("OrchardQuery", "query", "LOrchardQuery$Query;", true)
  | 2 => ("OrchardQuery", "form", "LOrchardQuery$Form;", true)
  | 3 => ("OrchardQuery", "plan", "LOrchardQuery$Plan;", true)
  | 4 => ("OrchardQuery", "answer", "LOrchardQuery$Answer;", true)
  | 5 => ("OrchardQuery", "count", "LOrchardQuery$Count;", true)
  | _ => ("OrchardQuery", "pull", "LOrchardQuery$Pull;", true)
def tyX11 : Nat → FieldType := fun k => match k with
  | 0 => .object "OrchardQuery$Store"
  | 1 => .object "OrchardQuery$Query"
  | 2 => .object "OrchardQuery$Form"
  | 3 => .object "OrchardQuery$Plan"
  | 4 => .object "OrchardQuery$Answer"
  | 5 => .object "OrchardQuery$Count"
  | _ => .object "OrchardQuery$Pull"
theorem nmX11 : ∀ a, a < 7 → ∀ b, b < 7 → a ≠ b → (TX11 a).2.1 ≠ (TX11 b).2.1 := by decide +kernel
theorem tyX11_ok : ∀ k, k < 7 → parseFieldDescriptor (TX11 k).2.2.1 = some (tyX11 k) := by decide +kernel
def RX12 : String := "OrchardQueryLaw$Grove"
def TX12 : u_T := fun k => match k with
  | 0 => ("OrchardQueryLaw$Grove", "m", "LOrchardQuery;", true)
  | 1 => ("OrchardQueryLaw$Grove", "s", "[I", true)
  | 2 => ("OrchardQueryLaw$Grove", "draws", "I", false)
  | 3 => ("OrchardQueryLaw$Grove", "tables", "[[[I", false)
  | 4 => ("OrchardQueryLaw$Grove", "columns", "[I", false)
  | 5 => ("OrchardQueryLaw$Grove", "tokens", "[I", false)
  | 6 => ("OrchardQueryLaw$Grove", "items", "[I", false)
  | 7 => ("OrchardQueryLaw$Grove", "seats", "[I", false)
  | 8 => ("OrchardQueryLaw$Grove", "group", "I", false)
  | 9 => ("OrchardQueryLaw$Grove", "sortBy", "I", false)
  | 10 => ("OrchardQueryLaw$Grove", "limit", "I", false)
  | 11 => ("OrchardQueryLaw$Grove", "conditions", "[[I", false)
  | 12 => ("OrchardQueryLaw$Grove", "order", "[I", false)
  | 13 => ("OrchardQueryLaw$Grove", "isEmpty", "Z", false)
  | 14 => ("OrchardQueryLaw$Grove", "reads", "I", false)
  | _ => ("OrchardQueryLaw$Grove", "checks", "I", false)
def tyX12 : Nat → FieldType := fun k => match k with
  | 0 => .object "OrchardQuery"
  | 1 => .array .int
  | 2 => .int
  | 3 => .array (.array (.array .int))
  | 4 => .array .int
  | 5 => .array .int
  | 6 => .array .int
  | 7 => .array .int
  | 8 => .int
  | 9 => .int
  | 10 => .int
  | 11 => .array (.array .int)
  | 12 => .array .int
  | 13 => .boolean
  | 14 => .int
  | _ => .int
theorem nmX12 : ∀ a, a < 16 → ∀ b, b < 16 → a ≠ b → (TX12 a).2.1 ≠ (TX12 b).2.1 := by decide +kernel
theorem tyX12_ok : ∀ k, k < 16 → parseFieldDescriptor (TX12 k).2.2.1 = some (tyX12 k) := by decide +kernel
abbrev P_cl : List vw_C := [(RX0, TX0, 17), (RX1, TX1, 4), (RX2, TX2, 8), (RX3, TX3, 9), (RX4, TX4, 4), (RX5, TX5, 6), (RX6, TX6, 4), (RX7, TX7, 10), (RX8, TX8, 3), (RX9, TX9, 4), (RX11, TX11, 7), (RX12, TX12, 16)]
def P_aty (k : Nat) : FieldType := match k with
  | 0 => .int
  | 1 => .long
  | 2 => .double
  | 3 => .boolean
  | k => if 100 ≤ k ∧ k < 200 then .object ((P_cl[k - 100]?).map Prod.fst |>.getD "") else if k = 201 then .array (.array .int) else .array .int
theorem P_atok0 : P_atok P_cl P_aty := by
  refine ⟨rfl, rfl, rfl, rfl, fun ci r h => ?_, fun k hk => ?_, rfl, rfl⟩
  · have hc : ci < 12 := (List.getElem?_eq_some_iff.mp h).1
    obtain ⟨j, hj⟩ : ∃ j, 100 + ci = j + 4 := ⟨96 + ci, by omega⟩
    rw [hj]
    show (if 100 ≤ j + 4 ∧ j + 4 < 200 then _ else _) = _
    rw [if_pos (by omega), ← hj, show 100 + ci - 100 = ci by omega, h]
    rfl
  · obtain ⟨j, rfl⟩ : ∃ j, k = j + 4 := ⟨k - 4, by omega⟩
    show (∃ C, (if 100 ≤ j + 4 ∧ j + 4 < 200 then _ else _) = _) ∨ ∃ t, (if 100 ≤ j + 4 ∧ j + 4 < 200 then _ else _) = _
    by_cases hq : 100 ≤ j + 4 ∧ j + 4 < 200
    · rw [if_pos hq]; exact Or.inl ⟨_, rfl⟩
    · rw [if_neg hq]; refine Or.inr ?_; split <;> exact ⟨_, rfl⟩
def P_Z1 : List (List Value) := [[.null, .null, .null, .int 0, .int 0, .int 0, .int 0, .int 0, .null, .null, .null, .null, .null, .null, .int 0, .int 0, .int 0], [.int 0, .int 0, .int 0, .int 0], [.null, .null, .null, .int 0, .int 0, .int 0, .int 0, .int 0], [.null, .null, .null, .null, .int 0, .int 0, .int 0, .int 0, .int 0], [.null, .null, .null, .null], [.null, .null, .null, .null, .int 0, .int 0], [.int 0, .int 0, .int 0, .int 0], [.null, .null, .null, .null, .int 0, .int 0, .int 0, .int 0, .int 0, .int 0], [.null, .null, .int 0], [.int 0, .null, .null, .int 0], [.null, .null, .null, .null, .null, .null, .null], [.null, .null, .int 0, .null, .null, .null, .null, .null, .int 0, .int 0, .int 0, .null, .null, .int 0, .int 0, .int 0]]
def P_ftys : List (Nat → FieldType) := [tyX0, tyX1, tyX2, tyX3, tyX4, tyX5, tyX6, tyX7, tyX8, tyX9, tyX11, tyX12]
def P_subs : List (Nat × List Nat) := [(50, [0, 2])]
def P_subt (c ci : Nat) : Bool := match P_subs.lookup c with
  | some l => l.contains ci
  | none => decide (c = ci)
def P_Z0 : P_Z := (fun ci => (P_Z1[ci]?).getD [], P_subt, fun ci k => ((P_ftys[ci]?).getD (fun _ => .int)) k)
theorem P_s1 {c : Nat} {P : Nat → Prop} (hc : P_subs.lookup c = none) (h : P c) : ∀ ci, P_subt c ci = true → P ci := by
  intro ci q
  unfold P_subt at q
  rw [hc] at q
  have : c = ci := by simpa using q
  exact this ▸ h
theorem P_s2 {c : Nat} {l : List Nat} {P : Nat → Prop} (hc : P_subs.lookup c = some l) (h : ∀ ci ∈ l, P ci) : ∀ ci, P_subt c ci = true → P ci := by
  intro ci q
  unfold P_subt at q
  rw [hc] at q
  exact h ci (by simpa using q)
def P_nms : List (List MethodName) := [[⟨"OrchardQueryLaw", "law", "([I)Z"⟩, ⟨"OrchardQuery$Answer", "<init>", "(LOrchardQuery$Form;LOrchardQuery$Plan;)V"⟩, ⟨"OrchardQuery$Answer", "forget", "()V"⟩, ⟨"OrchardQuery$Answer", "bringUpToDate", "()V"⟩, ⟨"OrchardQuery$Answer", "mostNeeded", "()I"⟩, ⟨"OrchardQuery$Answer", "resultCount", "()I"⟩, ⟨"OrchardQuery$Answer", "readsFor", "(I)I"⟩, ⟨"OrchardQuery$Answer", "checksFor", "(I)I"⟩, ⟨"OrchardQuery$Answer", "valueOf", "(II)I"⟩, ⟨"OrchardQuery$Answer", "meet", "()V"⟩, ⟨"OrchardQuery$Answer", "listGroups", "()V"⟩, ⟨"OrchardQuery$Answer", "sortByItem", "(I)V"⟩, ⟨"OrchardQuery$Answer", "sortByKeys", "()V"⟩, ⟨"OrchardQuery$Answer", "smallestKeyBehind", "(I)I"⟩, ⟨"OrchardQuery$Condition", "<init>", "()V"⟩, ⟨"OrchardQuery$Condition", "become", "(IIII)V"⟩, ⟨"OrchardQuery$Condition", "isSameTwice", "()Z"⟩, ⟨"OrchardQuery$Condition", "joins", "()Z"⟩, ⟨"OrchardQuery$Condition", "fixes", "()Z"⟩, ⟨"OrchardQuery$Condition", "partnerOf", "(I)I"⟩],
  [⟨"OrchardQuery$Count", "<init>", "(LOrchardQuery$Form;LOrchardQuery$Plan;)V"⟩, ⟨"OrchardQuery$Count", "meet", "()V"⟩, ⟨"OrchardQuery$Form", "<init>", "()V"⟩, ⟨"OrchardQuery$Form", "begin", "()V"⟩, ⟨"OrchardQuery$Form", "addItem", "(II)V"⟩, ⟨"OrchardQuery$Form", "addSeat", "(LOrchardQuery$Table;)V"⟩, ⟨"OrchardQuery$Form", "groupBy", "(I)V"⟩, ⟨"OrchardQuery$Form", "orderBy", "(I)V"⟩, ⟨"OrchardQuery$Form", "limitTo", "(I)V"⟩, ⟨"OrchardQuery$Form", "itemCount", "()I"⟩, ⟨"OrchardQuery$Form", "seatCount", "()I"⟩, ⟨"OrchardQuery$Form", "group", "()I"⟩, ⟨"OrchardQuery$Form", "orderItem", "()I"⟩, ⟨"OrchardQuery$Form", "limit", "()I"⟩, ⟨"OrchardQuery$Form", "kindOf", "(I)I"⟩, ⟨"OrchardQuery$Form", "columnOfItem", "(I)I"⟩, ⟨"OrchardQuery$Form", "hasItem", "(I)Z"⟩, ⟨"OrchardQuery$Form", "hasSeat", "(I)Z"⟩, ⟨"OrchardQuery$Form", "tableOf", "(I)LOrchardQuery$Table;"⟩, ⟨"OrchardQuery$Form", "hasColumn", "(I)Z"⟩],
  [⟨"OrchardQuery$Form", "varietyOf", "(I)I"⟩, ⟨"OrchardQuery$Form", "rowsOfAllSeats", "()I"⟩, ⟨"OrchardQuery$Form", "isGathered", "()Z"⟩, ⟨"OrchardQuery$Form", "isStreamed", "()Z"⟩, ⟨"OrchardQuery$Groups", "<init>", "(LOrchardQuery$Form;)V"⟩, ⟨"OrchardQuery$Groups", "begin", "()V"⟩, ⟨"OrchardQuery$Groups", "gather", "(II)V"⟩, ⟨"OrchardQuery$Groups", "groupOf", "(I)I"⟩, ⟨"OrchardQuery$Groups", "countOf", "(I)I"⟩, ⟨"OrchardQuery$Groups", "nameOf", "(I)I"⟩, ⟨"OrchardQuery$Groups", "valueOf", "(II)I"⟩, ⟨"OrchardQuery$Groups", "cellOf", "(II)I"⟩, ⟨"OrchardQuery$Groups", "rowOf", "(II)I"⟩, ⟨"OrchardQuery$Plan", "<init>", "(LOrchardQuery$Form;)V"⟩, ⟨"OrchardQuery$Plan", "begin", "()V"⟩, ⟨"OrchardQuery$Plan", "conditionCount", "()I"⟩, ⟨"OrchardQuery$Plan", "hasCondition", "(I)Z"⟩, ⟨"OrchardQuery$Plan", "isNever", "()Z"⟩, ⟨"OrchardQuery$Plan", "seatAt", "(I)I"⟩, ⟨"OrchardQuery$Plan", "at", "(I)LOrchardQuery$Condition;"⟩],
  [⟨"OrchardQuery$Plan", "add", "(III)V"⟩, ⟨"OrchardQuery$Plan", "remove", "(I)V"⟩, ⟨"OrchardQuery$Plan", "tell", "(LOrchardQuery$Condition;I)I"⟩, ⟨"OrchardQuery$Plan", "lowOf", "(LOrchardQuery$Condition;)I"⟩, ⟨"OrchardQuery$Plan", "placeOf", "(I)I"⟩, ⟨"OrchardQuery$Plan", "partOf", "(LOrchardQuery$Condition;)I"⟩, ⟨"OrchardQuery$Plan", "guessAt", "(I)J"⟩, ⟨"OrchardQuery$Plan", "costOfAll", "()J"⟩, ⟨"OrchardQuery$Plan", "rowsAt", "(I)I"⟩, ⟨"OrchardQuery$Plan", "thinned", "(JI)J"⟩, ⟨"OrchardQuery$Plan", "applyRule", "(I)I"⟩, ⟨"OrchardQuery$Plan", "dropTrue", "()I"⟩, ⟨"OrchardQuery$Plan", "draw", "()I"⟩, ⟨"OrchardQuery$Plan", "drawsOne", "()Z"⟩, ⟨"OrchardQuery$Plan", "drawsFrom", "(LOrchardQuery$Condition;LOrchardQuery$Condition;)Z"⟩, ⟨"OrchardQuery$Plan", "isFixed", "(II)Z"⟩, ⟨"OrchardQuery$Plan", "bringDown", "()I"⟩, ⟨"OrchardQuery$Plan", "becomeNever", "()Z"⟩, ⟨"OrchardQuery$Plan", "contradict", "(LOrchardQuery$Condition;LOrchardQuery$Condition;)Z"⟩, ⟨"OrchardQuery$Plan", "exchange", "(II)V"⟩],
  [⟨"OrchardQuery$Plan", "takeBest", "()J"⟩, ⟨"OrchardQuery$Plan", "isOrder", "(I)Z"⟩, ⟨"OrchardQuery$Plan", "bringInto", "(I)V"⟩, ⟨"OrchardQuery$Pull", "<init>", "()V"⟩, ⟨"OrchardQuery$Pull", "begin", "()V"⟩, ⟨"OrchardQuery$Pull", "end", "()V"⟩, ⟨"OrchardQuery$Pull", "isBegun", "()Z"⟩, ⟨"OrchardQuery$Pull", "pulled", "()I"⟩, ⟨"OrchardQuery$Pull", "take", "(LOrchardQuery$Answer;)Z"⟩, ⟨"OrchardQuery$Pull", "tell", "(I)I"⟩, ⟨"OrchardQuery$Query", "<init>", "(LOrchardQuery$Store;LOrchardQuery$Form;LOrchardQuery$Plan;)V"⟩, ⟨"OrchardQuery$Query", "length", "()I"⟩, ⟨"OrchardQuery$Query", "isRead", "()Z"⟩, ⟨"OrchardQuery$Query", "faultPlace", "()I"⟩, ⟨"OrchardQuery$Query", "add", "(I)V"⟩, ⟨"OrchardQuery$Query", "empty", "()V"⟩, ⟨"OrchardQuery$Query", "forgetReading", "()V"⟩, ⟨"OrchardQuery$Query", "readThrough", "()I"⟩, ⟨"OrchardQuery$Query", "readsHead", "()Z"⟩, ⟨"OrchardQuery$Query", "readsTail", "()Z"⟩],
  [⟨"OrchardQuery$Query", "readsItems", "()Z"⟩, ⟨"OrchardQuery$Query", "readsItem", "()Z"⟩, ⟨"OrchardQuery$Query", "readsTables", "()Z"⟩, ⟨"OrchardQuery$Query", "readsConditions", "()Z"⟩, ⟨"OrchardQuery$Query", "readsCondition", "()Z"⟩, ⟨"OrchardQuery$Query", "readsGroup", "()Z"⟩, ⟨"OrchardQuery$Query", "readsOrder", "()Z"⟩, ⟨"OrchardQuery$Query", "readsLimit", "()Z"⟩, ⟨"OrchardQuery$Query", "findsColumns", "()Z"⟩, ⟨"OrchardQuery$Query", "findsOrderItem", "()Z"⟩, ⟨"OrchardQuery$Query", "ahead", "()I"⟩, ⟨"OrchardQuery$Query", "beginsItem", "(I)Z"⟩, ⟨"OrchardQuery$Query", "fails", "(II)Z"⟩, ⟨"OrchardQuery$Store", "<init>", "()V"⟩, ⟨"OrchardQuery$Store", "size", "()I"⟩, ⟨"OrchardQuery$Store", "has", "(I)Z"⟩, ⟨"OrchardQuery$Store", "at", "(I)LOrchardQuery$Table;"⟩, ⟨"OrchardQuery$Store", "add", "(I)I"⟩, ⟨"OrchardQuery$Table", "<init>", "(I)V"⟩, ⟨"OrchardQuery$Table", "columnCount", "()I"⟩],
  [⟨"OrchardQuery$Table", "rowCount", "()I"⟩, ⟨"OrchardQuery$Table", "isFull", "()Z"⟩, ⟨"OrchardQuery$Table", "cell", "(II)I"⟩, ⟨"OrchardQuery$Table", "add", "(III)V"⟩, ⟨"OrchardQuery$Table", "remove", "(I)V"⟩, ⟨"OrchardQuery$Table", "varietyOf", "(I)I"⟩, ⟨"OrchardQuery$Table", "countVarieties", "()V"⟩, ⟨"OrchardQuery$Table", "firstAlike", "(II)I"⟩, ⟨"OrchardQuery$Walk", "<init>", "(LOrchardQuery$Form;LOrchardQuery$Plan;)V"⟩, ⟨"OrchardQuery$Walk", "reads", "()I"⟩, ⟨"OrchardQuery$Walk", "checks", "()I"⟩, ⟨"OrchardQuery$Walk", "meetings", "()I"⟩, ⟨"OrchardQuery$Walk", "meeting", "()I"⟩, ⟨"OrchardQuery$Walk", "walk", "(II)V"⟩, ⟨"OrchardQuery$Walk", "goThrough", "(I)V"⟩, ⟨"OrchardQuery$Walk", "holdsAt", "(I)Z"⟩, ⟨"OrchardQuery$Walk", "valueNow", "(I)I"⟩, ⟨"OrchardQuery", "<init>", "()V"⟩, ⟨"OrchardQuery", "table", "(I)I"⟩, ⟨"OrchardQuery", "row", "(IIII)I"⟩],
  [⟨"OrchardQuery", "drop", "(II)I"⟩, ⟨"OrchardQuery", "token", "(I)I"⟩, ⟨"OrchardQuery", "clear", "()I"⟩, ⟨"OrchardQuery", "read", "()I"⟩, ⟨"OrchardQuery", "faultAt", "()I"⟩, ⟨"OrchardQuery", "many", "(I)I"⟩, ⟨"OrchardQuery", "condition", "(II)I"⟩, ⟨"OrchardQuery", "rewrite", "(I)I"⟩, ⟨"OrchardQuery", "swap", "(II)I"⟩, ⟨"OrchardQuery", "best", "()J"⟩, ⟨"OrchardQuery", "order", "(I)I"⟩, ⟨"OrchardQuery", "guess", "(I)J"⟩, ⟨"OrchardQuery", "cost", "()J"⟩, ⟨"OrchardQuery", "isEmpty", "()Z"⟩, ⟨"OrchardQuery", "open", "()I"⟩, ⟨"OrchardQuery", "next", "()Z"⟩, ⟨"OrchardQuery", "value", "(I)I"⟩, ⟨"OrchardQuery", "done", "(I)I"⟩, ⟨"OrchardQuery", "results", "()I"⟩, ⟨"OrchardQuery", "result", "(II)I"⟩],
  [⟨"OrchardQuery", "wouldDo", "(I)I"⟩, ⟨"OrchardQuery", "meetingsWithout", "(I)I"⟩, ⟨"OrchardQuery", "share", "()D"⟩, ⟨"OrchardQuery", "digest", "()J"⟩, ⟨"OrchardQuery", "digestOfTable", "(JLOrchardQuery$Table;)J"⟩, ⟨"OrchardQuery", "digestOfPlan", "(J)J"⟩, ⟨"OrchardQuery", "digestOfResults", "(J)J"⟩, ⟨"OrchardQuery", "howMany", "(I)I"⟩, ⟨"OrchardQuery", "refuseUnread", "()V"⟩, ⟨"OrchardQuery", "becomeOther", "()V"⟩, ⟨"OrchardQuery", "mix", "(JJ)J"⟩, ⟨"OrchardQuery", "isValue", "(I)Z"⟩, ⟨"OrchardQuery", "isToken", "(I)Z"⟩, ⟨"OrchardQuery", "isTable", "(I)Z"⟩, ⟨"OrchardQuery", "isColumn", "(I)Z"⟩, ⟨"OrchardQuery", "isNumber", "(I)Z"⟩, ⟨"OrchardQuery", "seatOf", "(I)I"⟩, ⟨"OrchardQuery", "columnOf", "(I)I"⟩, ⟨"OrchardQuery", "get", "([II)I"⟩, ⟨"OrchardQuery", "put", "([III)V"⟩],
  [⟨"OrchardQuery", "fill", "([II)V"⟩, ⟨"OrchardQueryLaw$Grove", "<init>", "([II)V"⟩, ⟨"OrchardQueryLaw$Grove", "draw", "(I)I"⟩, ⟨"OrchardQueryLaw$Grove", "plus", "([II)[I"⟩, ⟨"OrchardQueryLaw$Grove", "with", "([[II[I)[[I"⟩, ⟨"OrchardQueryLaw$Grove", "without", "([[II)[[I"⟩, ⟨"OrchardQueryLaw$Grove", "addTable", "()Z"⟩, ⟨"OrchardQueryLaw$Grove", "addRow", "(I)Z"⟩, ⟨"OrchardQueryLaw$Grove", "drop", "(I)Z"⟩, ⟨"OrchardQueryLaw$Grove", "found", "()Z"⟩, ⟨"OrchardQueryLaw$Grove", "token", "(I)Z"⟩, ⟨"OrchardQueryLaw$Grove", "column", "()I"⟩, ⟨"OrchardQueryLaw$Grove", "write", "()Z"⟩, ⟨"OrchardQueryLaw$Grove", "plan", "()V"⟩, ⟨"OrchardQueryLaw$Grove", "placeOf", "(I)I"⟩, ⟨"OrchardQueryLaw$Grove", "low", "([I)I"⟩, ⟨"OrchardQueryLaw$Grove", "varietyOf", "(I)I"⟩, ⟨"OrchardQueryLaw$Grove", "part", "([I)I"⟩, ⟨"OrchardQueryLaw$Grove", "guess", "(I)J"⟩, ⟨"OrchardQueryLaw$Grove", "cost", "()J"⟩],
  [⟨"OrchardQueryLaw$Grove", "hasNumber", "(II)Z"⟩, ⟨"OrchardQueryLaw$Grove", "once", "(I)Z"⟩, ⟨"OrchardQueryLaw$Grove", "rewrite", "(I)Z"⟩, ⟨"OrchardQueryLaw$Grove", "swap", "()Z"⟩, ⟨"OrchardQueryLaw$Grove", "best", "()Z"⟩, ⟨"OrchardQueryLaw$Grove", "isTogether", "()Z"⟩, ⟨"OrchardQueryLaw", "below", "(II)I"⟩, ⟨"OrchardQueryLaw", "cell", "([II)I"⟩]]
def P_bts : List (List ByteArray) := [[code, prog_2_method_1_code, prog_2_method_2_code, prog_2_method_3_code, prog_2_method_4_code, prog_2_method_5_code, prog_2_method_6_code, prog_2_method_7_code, prog_2_method_8_code, prog_2_method_9_code, prog_2_method_10_code, prog_2_method_11_code, prog_2_method_12_code, prog_2_method_13_code, prog_3_method_1_code, prog_3_method_2_code, prog_3_method_3_code, prog_3_method_4_code, prog_3_method_5_code, prog_3_method_6_code],
  [prog_4_method_1_code, prog_4_method_2_code, prog_5_method_1_code, prog_5_method_2_code, prog_5_method_3_code, prog_5_method_4_code, prog_5_method_5_code, prog_5_method_6_code, prog_5_method_7_code, prog_5_method_8_code, prog_5_method_9_code, prog_5_method_10_code, prog_5_method_11_code, prog_5_method_12_code, prog_5_method_13_code, prog_5_method_14_code, prog_5_method_15_code, prog_5_method_16_code, prog_5_method_17_code, prog_5_method_18_code],
  [prog_5_method_19_code, prog_5_method_20_code, prog_5_method_21_code, prog_5_method_22_code, prog_6_method_1_code, prog_6_method_2_code, prog_6_method_3_code, prog_6_method_4_code, prog_6_method_5_code, prog_6_method_6_code, prog_6_method_7_code, prog_6_method_8_code, prog_6_method_9_code, prog_7_method_1_code, prog_7_method_2_code, prog_7_method_3_code, prog_7_method_4_code, prog_7_method_5_code, prog_7_method_6_code, prog_7_method_7_code],
  [prog_7_method_8_code, prog_7_method_9_code, prog_7_method_10_code, prog_7_method_11_code, prog_7_method_12_code, prog_7_method_13_code, prog_7_method_14_code, prog_7_method_15_code, prog_7_method_16_code, prog_7_method_17_code, prog_7_method_18_code, prog_7_method_19_code, prog_7_method_20_code, prog_7_method_21_code, prog_7_method_22_code, prog_7_method_23_code, prog_7_method_24_code, prog_7_method_25_code, prog_7_method_26_code, prog_7_method_27_code],
  [prog_7_method_28_code, prog_7_method_29_code, prog_7_method_30_code, prog_8_method_1_code, prog_8_method_2_code, prog_8_method_3_code, prog_8_method_4_code, prog_8_method_5_code, prog_8_method_6_code, prog_8_method_7_code, prog_9_method_1_code, prog_9_method_2_code, prog_9_method_3_code, prog_9_method_4_code, prog_9_method_5_code, prog_9_method_6_code, prog_9_method_7_code, prog_9_method_8_code, prog_9_method_9_code, prog_9_method_10_code],
  [prog_9_method_11_code, prog_9_method_12_code, prog_9_method_13_code, prog_9_method_14_code, prog_9_method_15_code, prog_9_method_16_code, prog_9_method_17_code, prog_9_method_18_code, prog_9_method_19_code, prog_9_method_20_code, prog_9_method_21_code, prog_9_method_22_code, prog_9_method_23_code, prog_10_method_1_code, prog_10_method_2_code, prog_10_method_3_code, prog_10_method_4_code, prog_10_method_5_code, prog_11_method_1_code, prog_11_method_2_code],
  [prog_11_method_3_code, prog_11_method_4_code, prog_11_method_5_code, prog_11_method_6_code, prog_11_method_7_code, prog_11_method_8_code, prog_11_method_9_code, prog_11_method_10_code, prog_12_method_1_code, prog_12_method_3_code, prog_12_method_4_code, prog_12_method_5_code, prog_12_method_6_code, prog_12_method_7_code, prog_12_method_8_code, prog_12_method_9_code, prog_12_method_10_code, prog_1_method_1_code, prog_1_method_2_code, prog_1_method_3_code],
  [prog_1_method_4_code, prog_1_method_6_code, prog_1_method_7_code, prog_1_method_8_code, prog_1_method_9_code, prog_1_method_10_code, prog_1_method_11_code, prog_1_method_12_code, prog_1_method_13_code, prog_1_method_14_code, prog_1_method_15_code, prog_1_method_16_code, prog_1_method_17_code, prog_1_method_18_code, prog_1_method_19_code, prog_1_method_20_code, prog_1_method_21_code, prog_1_method_22_code, prog_1_method_23_code, prog_1_method_24_code],
  [prog_1_method_25_code, prog_1_method_26_code, prog_1_method_27_code, prog_1_method_28_code, prog_1_method_29_code, prog_1_method_30_code, prog_1_method_31_code, prog_1_method_32_code, prog_1_method_33_code, prog_1_method_34_code, prog_1_method_35_code, prog_1_method_36_code, prog_1_method_37_code, prog_1_method_38_code, prog_1_method_39_code, prog_1_method_40_code, prog_1_method_41_code, prog_1_method_42_code, prog_1_method_43_code, prog_1_method_44_code],
  [prog_1_method_45_code, prog_14_method_1_code, prog_14_method_2_code, prog_14_method_3_code, prog_14_method_4_code, prog_14_method_5_code, prog_14_method_6_code, prog_14_method_7_code, prog_14_method_8_code, prog_14_method_9_code, prog_14_method_10_code, prog_14_method_11_code, prog_14_method_12_code, prog_14_method_13_code, prog_14_method_14_code, prog_14_method_15_code, prog_14_method_17_code, prog_14_method_18_code, prog_14_method_19_code, prog_14_method_20_code],
  [prog_14_method_21_code, prog_14_method_22_code, prog_14_method_23_code, prog_14_method_24_code, prog_14_method_25_code, prog_14_method_29_code, method_2_code, method_3_code]]
def P_hhs : List (Nat × List (Nat × Nat × Nat × Nat)) := []
def P_inis : List Nat := [1, 14, 20, 22, 44, 53, 83, 90, 113, 118, 128, 137, 181]
def P_N0 : P_N := (P_at P_nms ⟨"", "", ""⟩, P_at P_bts code, fun y => (P_hhs.lookup y).getD [], fun y => P_inis.contains y, fun E => (["java/lang/IllegalArgumentException", "java/lang/IllegalStateException", "java/lang/IndexOutOfBoundsException"][E]?).getD "")
def P_xs : List Jvm.Cond := [Jvm.Cond.selects "OrchardQuery$Count" (⟨"OrchardQuery$Walk", "goThrough", "(I)V"⟩ : MethodName) (⟨"OrchardQuery$Walk", "goThrough", "(I)V"⟩ : MethodName), Jvm.Cond.selects "OrchardQuery$Answer" (⟨"OrchardQuery$Walk", "goThrough", "(I)V"⟩ : MethodName) (⟨"OrchardQuery$Walk", "goThrough", "(I)V"⟩ : MethodName), Jvm.Cond.selects "OrchardQuery$Count" (⟨"OrchardQuery$Walk", "holdsAt", "(I)Z"⟩ : MethodName) (⟨"OrchardQuery$Walk", "holdsAt", "(I)Z"⟩ : MethodName), Jvm.Cond.selects "OrchardQuery$Answer" (⟨"OrchardQuery$Walk", "holdsAt", "(I)Z"⟩ : MethodName) (⟨"OrchardQuery$Walk", "holdsAt", "(I)Z"⟩ : MethodName), Jvm.Cond.selects "OrchardQuery$Count" (⟨"OrchardQuery$Walk", "valueNow", "(I)I"⟩ : MethodName) (⟨"OrchardQuery$Walk", "valueNow", "(I)I"⟩ : MethodName), Jvm.Cond.selects "OrchardQuery$Answer" (⟨"OrchardQuery$Walk", "valueNow", "(I)I"⟩ : MethodName) (⟨"OrchardQuery$Walk", "valueNow", "(I)I"⟩ : MethodName)]
def P_Tg : List Jvm.Cond := P_xs ++ lw_tbl.filter goodWord
def P_T2 : List Jvm.Cond := [(Jvm.Cond.castable "java/lang/IllegalArgumentException" "java/lang/IllegalArgumentException"),
  (Jvm.Cond.declares ({ cls := "java/lang/RuntimeException", name := "<init>", desc := "()V" } : Jvm.MethodName)),
  (Jvm.Cond.declares ({ cls := "java/lang/RuntimeException", name := "<init>", desc := "(Ljava/lang/String;)V" } : Jvm.MethodName)),
  (Jvm.Cond.declares ({ cls := "java/lang/Exception", name := "<init>", desc := "()V" } : Jvm.MethodName)),
  (Jvm.Cond.declares ({ cls := "java/lang/Exception", name := "<init>", desc := "(Ljava/lang/String;)V" } : Jvm.MethodName)),
  (Jvm.Cond.declares ({ cls := "java/lang/Throwable", name := "<init>", desc := "()V" } : Jvm.MethodName)),
  (Jvm.Cond.declares ({ cls := "java/lang/Throwable", name := "<init>", desc := "(Ljava/lang/String;)V" } : Jvm.MethodName)),
  (Jvm.Cond.castable "java/lang/IllegalStateException" "java/lang/IllegalStateException"),
  (Jvm.Cond.castable "java/lang/IndexOutOfBoundsException" "java/lang/IndexOutOfBoundsException"),
  (Jvm.Cond.methodLinkNest "OrchardQuery$Plan" (79 : Nat) ({ cls := "OrchardQuery", name := "seatOf", desc := "(I)I" } : Jvm.MethodName) "OrchardQuery"),
  (Jvm.Cond.methodLinkNest "OrchardQuery$Plan" (86 : Nat) ({ cls := "OrchardQuery", name := "isColumn", desc := "(I)Z" } : Jvm.MethodName) "OrchardQuery"),
  (Jvm.Cond.methodLinkNest "OrchardQuery$Form" (60 : Nat) ({ cls := "OrchardQuery", name := "seatOf", desc := "(I)I" } : Jvm.MethodName) "OrchardQuery"),
  (Jvm.Cond.methodLinkNest "OrchardQuery$Form" (56 : Nat) ({ cls := "OrchardQuery", name := "columnOf", desc := "(I)I" } : Jvm.MethodName) "OrchardQuery"),
  (Jvm.Cond.methodLinkNest "OrchardQuery$Table" (36 : Nat) ({ cls := "OrchardQuery", name := "get", desc := "([II)I" } : Jvm.MethodName) "OrchardQuery"),
  (Jvm.Cond.methodLinkNest "OrchardQuery$Plan" (42 : Nat) ({ cls := "OrchardQuery", name := "get", desc := "([II)I" } : Jvm.MethodName) "OrchardQuery"),
  (Jvm.Cond.methodLinkNest "OrchardQuery$Groups" (25 : Nat) ({ cls := "OrchardQuery", name := "fill", desc := "([II)V" } : Jvm.MethodName) "OrchardQuery"),
  (Jvm.Cond.methodLinkNest "OrchardQuery$Form" (52 : Nat) ({ cls := "OrchardQuery", name := "get", desc := "([II)I" } : Jvm.MethodName) "OrchardQuery"),
  (Jvm.Cond.declares ({ cls := "OrchardQuery$Walk", name := "walk", desc := "(II)V" } : Jvm.MethodName)),
  (Jvm.Cond.methodLinkNest "OrchardQuery$Walk" (43 : Nat) ({ cls := "OrchardQuery", name := "fill", desc := "([II)V" } : Jvm.MethodName) "OrchardQuery"),
  (Jvm.Cond.methodLinkNest "OrchardQuery$Walk" (72 : Nat) ({ cls := "OrchardQuery", name := "put", desc := "([III)V" } : Jvm.MethodName) "OrchardQuery"),
  (Jvm.Cond.methodLinkNest "OrchardQuery$Walk" (107 : Nat) ({ cls := "OrchardQuery", name := "isNumber", desc := "(I)Z" } : Jvm.MethodName) "OrchardQuery"),
  (Jvm.Cond.methodLinkNest "OrchardQuery$Walk" (110 : Nat) ({ cls := "OrchardQuery", name := "seatOf", desc := "(I)I" } : Jvm.MethodName) "OrchardQuery"),
  (Jvm.Cond.methodLinkNest "OrchardQuery$Walk" (33 : Nat) ({ cls := "OrchardQuery", name := "get", desc := "([II)I" } : Jvm.MethodName) "OrchardQuery"),
  (Jvm.Cond.methodLinkNest "OrchardQuery$Walk" (113 : Nat) ({ cls := "OrchardQuery", name := "columnOf", desc := "(I)I" } : Jvm.MethodName) "OrchardQuery"),
  (Jvm.Cond.declares ({ cls := "OrchardQuery$Walk", name := "meet", desc := "()V" } : Jvm.MethodName)),
  (Jvm.Cond.declares ({ cls := "OrchardQuery$Walk", name := "meeting", desc := "()I" } : Jvm.MethodName)),
  (Jvm.Cond.methodLinkNest "OrchardQuery$Groups" (57 : Nat) ({ cls := "OrchardQuery", name := "seatOf", desc := "(I)I" } : Jvm.MethodName) "OrchardQuery"),
  (Jvm.Cond.methodLinkNest "OrchardQuery$Groups" (67 : Nat) ({ cls := "OrchardQuery", name := "columnOf", desc := "(I)I" } : Jvm.MethodName) "OrchardQuery"),
  (Jvm.Cond.methodLinkNest "OrchardQuery$Groups" (29 : Nat) ({ cls := "OrchardQuery", name := "get", desc := "([II)I" } : Jvm.MethodName) "OrchardQuery"),
  (Jvm.Cond.methodLinkNest "OrchardQuery$Groups" (33 : Nat) ({ cls := "OrchardQuery", name := "put", desc := "([III)V" } : Jvm.MethodName) "OrchardQuery"),
  (Jvm.Cond.methodLinkNest "OrchardQuery$Answer" (130 : Nat) ({ cls := "OrchardQuery", name := "put", desc := "([III)V" } : Jvm.MethodName) "OrchardQuery"),
  (Jvm.Cond.declares ({ cls := "OrchardQuery$Walk", name := "reads", desc := "()I" } : Jvm.MethodName)),
  (Jvm.Cond.declares ({ cls := "OrchardQuery$Walk", name := "checks", desc := "()I" } : Jvm.MethodName)),
  (Jvm.Cond.methodLinkNest "OrchardQuery$Answer" (101 : Nat) ({ cls := "OrchardQuery", name := "get", desc := "([II)I" } : Jvm.MethodName) "OrchardQuery"),
  (Jvm.Cond.declares ({ cls := "OrchardQuery$Walk", name := "meetings", desc := "()I" } : Jvm.MethodName)),
  (Jvm.Cond.arrayOver (Jvm.ClassFile.FieldType.object "OrchardQuery$Table")),
  (Jvm.Cond.arrayOver (Jvm.ClassFile.FieldType.object "OrchardQuery$Condition")),
  (Jvm.Cond.methodLinkNest "OrchardQuery$Plan" (21 : Nat) ({ cls := "OrchardQuery$Condition", name := "<init>", desc := "()V" } : Jvm.MethodName) "OrchardQuery"),
  (Jvm.Cond.fieldLinkNest "OrchardQuery$Plan" (60 : Nat) "OrchardQuery$Condition" "left" "I" "OrchardQuery"),
  (Jvm.Cond.fieldLinkNest "OrchardQuery$Walk" (95 : Nat) "OrchardQuery$Condition" "left" "I" "OrchardQuery"),
  (Jvm.Cond.fieldLinkNest "OrchardQuery$Plan" (63 : Nat) "OrchardQuery$Condition" "sign" "I" "OrchardQuery"),
  (Jvm.Cond.fieldLinkNest "OrchardQuery$Walk" (104 : Nat) "OrchardQuery$Condition" "sign" "I" "OrchardQuery"),
  (Jvm.Cond.fieldLinkNest "OrchardQuery$Plan" (66 : Nat) "OrchardQuery$Condition" "right" "I" "OrchardQuery"),
  (Jvm.Cond.fieldLinkNest "OrchardQuery$Walk" (101 : Nat) "OrchardQuery$Condition" "right" "I" "OrchardQuery"),
  (Jvm.Cond.fieldLinkNest "OrchardQuery$Walk" (90 : Nat) "OrchardQuery$Condition" "level" "I" "OrchardQuery"),
  (Jvm.Cond.fieldLinkNest "OrchardQuery$Plan" (69 : Nat) "OrchardQuery$Condition" "level" "I" "OrchardQuery"),
  (Jvm.Cond.methodLinkNest "OrchardQuery" (59 : Nat) ({ cls := "OrchardQuery$Pull", name := "<init>", desc := "()V" } : Jvm.MethodName) "OrchardQuery"),
  (Jvm.Cond.arrayOver (Jvm.ClassFile.FieldType.array (Jvm.ClassFile.FieldType.array Jvm.ClassFile.FieldType.int))),
  (Jvm.Cond.arrayOver (Jvm.ClassFile.FieldType.array Jvm.ClassFile.FieldType.int)),
  (Jvm.Cond.methodLinkNest "OrchardQueryLaw$Grove" (58 : Nat) ({ cls := "OrchardQueryLaw", name := "cell", desc := "([II)I" } : Jvm.MethodName) "OrchardQueryLaw"),
  (Jvm.Cond.methodLinkNest "OrchardQueryLaw$Grove" (64 : Nat) ({ cls := "OrchardQueryLaw", name := "below", desc := "(II)I" } : Jvm.MethodName) "OrchardQueryLaw"),
  (Jvm.Cond.methodLinkNest "OrchardQuery$Table" (29 : Nat) ({ cls := "OrchardQuery", name := "put", desc := "([III)V" } : Jvm.MethodName) "OrchardQuery"),
  (Jvm.Cond.methodLinkNest "OrchardQuery$Query" (38 : Nat) ({ cls := "OrchardQuery", name := "put", desc := "([III)V" } : Jvm.MethodName) "OrchardQuery"),
  (Jvm.Cond.fieldLinkNest "OrchardQuery$Plan" (172 : Nat) "OrchardQuery" "ORDERS" "[I" "OrchardQuery"),
  (Jvm.Cond.methodLinkNest "OrchardQuery$Query" (151 : Nat) ({ cls := "OrchardQuery", name := "get", desc := "([II)I" } : Jvm.MethodName) "OrchardQuery"),
  (Jvm.Cond.methodLinkNest "OrchardQuery$Query" (109 : Nat) ({ cls := "OrchardQuery", name := "isColumn", desc := "(I)Z" } : Jvm.MethodName) "OrchardQuery"),
  (Jvm.Cond.methodLinkNest "OrchardQuery$Form" (48 : Nat) ({ cls := "OrchardQuery", name := "put", desc := "([III)V" } : Jvm.MethodName) "OrchardQuery"),
  (Jvm.Cond.methodLinkNest "OrchardQuery$Query" (112 : Nat) ({ cls := "OrchardQuery", name := "isTable", desc := "(I)Z" } : Jvm.MethodName) "OrchardQuery"),
  (Jvm.Cond.methodLinkNest "OrchardQuery$Query" (131 : Nat) ({ cls := "OrchardQuery", name := "isNumber", desc := "(I)Z" } : Jvm.MethodName) "OrchardQuery"),
  (Jvm.Cond.methodLinkNest "OrchardQuery$Condition" (24 : Nat) ({ cls := "OrchardQuery", name := "isColumn", desc := "(I)Z" } : Jvm.MethodName) "OrchardQuery"),
  (Jvm.Cond.methodLinkNest "OrchardQuery$Condition" (28 : Nat) ({ cls := "OrchardQuery", name := "isNumber", desc := "(I)Z" } : Jvm.MethodName) "OrchardQuery"),
  (Jvm.Cond.methodLinkNest "OrchardQuery$Plan" (166 : Nat) ({ cls := "OrchardQuery", name := "put", desc := "([III)V" } : Jvm.MethodName) "OrchardQuery")]
abbrev P_Tb : List Jvm.Cond := P_Tg ++ P_T2
theorem P_T2ok : ∀ w ∈ P_T2, P_wm w :=
  P_all_cons P_wm_ca <|
  P_all_cons P_wm_de <|
  P_all_cons P_wm_de <|
  P_all_cons P_wm_de <|
  P_all_cons P_wm_de <|
  P_all_cons P_wm_de <|
  P_all_cons P_wm_de <|
  P_all_cons P_wm_ca <|
  P_all_cons P_wm_ca <|
  P_all_cons P_wm_mn <|
  P_all_cons P_wm_mn <|
  P_all_cons P_wm_mn <|
  P_all_cons P_wm_mn <|
  P_all_cons P_wm_mn <|
  P_all_cons P_wm_mn <|
  P_all_cons P_wm_mn <|
  P_all_cons P_wm_mn <|
  P_all_cons P_wm_de <|
  P_all_cons P_wm_mn <|
  P_all_cons P_wm_mn <|
  P_all_cons P_wm_mn <|
  P_all_cons P_wm_mn <|
  P_all_cons P_wm_mn <|
  P_all_cons P_wm_mn <|
  P_all_cons P_wm_de <|
  P_all_cons P_wm_de <|
  P_all_cons P_wm_mn <|
  P_all_cons P_wm_mn <|
  P_all_cons P_wm_mn <|
  P_all_cons P_wm_mn <|
  P_all_cons P_wm_mn <|
  P_all_cons P_wm_de <|
  P_all_cons P_wm_de <|
  P_all_cons P_wm_mn <|
  P_all_cons P_wm_de <|
  P_all_cons P_wm_ao <|
  P_all_cons P_wm_ao <|
  P_all_cons P_wm_mn <|
  P_all_cons P_wm_fn <|
  P_all_cons P_wm_fn <|
  P_all_cons P_wm_fn <|
  P_all_cons P_wm_fn <|
  P_all_cons P_wm_fn <|
  P_all_cons P_wm_fn <|
  P_all_cons P_wm_fn <|
  P_all_cons P_wm_fn <|
  P_all_cons P_wm_mn <|
  P_all_cons P_wm_ar <|
  P_all_cons P_wm_ar <|
  P_all_cons P_wm_mn <|
  P_all_cons P_wm_mn <|
  P_all_cons P_wm_mn <|
  P_all_cons P_wm_mn <|
  P_all_cons P_wm_fn <|
  P_all_cons P_wm_mn <|
  P_all_cons P_wm_mn <|
  P_all_cons P_wm_mn <|
  P_all_cons P_wm_mn <|
  P_all_cons P_wm_mn <|
  P_all_cons P_wm_mn <|
  P_all_cons P_wm_mn <|
  P_all_cons P_wm_mn <|
  P_all_nil
theorem P_tbm {w : Jvm.Cond} (h : w ∈ tables_1) (hg : goodWord w = true) : w ∈ P_Tb := List.mem_append_left _ <| List.mem_append_right _ (List.mem_filter.mpr ⟨List.mem_append_right _ h, hg⟩)
theorem P_t1 {w : Jvm.Cond} (j : Nat) (h : tables_1_1[j]? = some w) (hg : goodWord w = true) : w ∈ P_Tb := P_tbm (show w ∈ tables_1_1 ++ (tables_1_2 ++ (tables_1_3 ++ (tables_1_4 ++ (tables_1_5 ++ (tables_1_6))))) from List.mem_append_left _ (List.mem_of_getElem? h)) hg
theorem P_t2 {w : Jvm.Cond} (j : Nat) (h : tables_1_2[j]? = some w) (hg : goodWord w = true) : w ∈ P_Tb := P_tbm (show w ∈ tables_1_1 ++ (tables_1_2 ++ (tables_1_3 ++ (tables_1_4 ++ (tables_1_5 ++ (tables_1_6))))) from List.mem_append_right _ (List.mem_append_left _ (List.mem_of_getElem? h))) hg
theorem P_t3 {w : Jvm.Cond} (j : Nat) (h : tables_1_3[j]? = some w) (hg : goodWord w = true) : w ∈ P_Tb := P_tbm (show w ∈ tables_1_1 ++ (tables_1_2 ++ (tables_1_3 ++ (tables_1_4 ++ (tables_1_5 ++ (tables_1_6))))) from List.mem_append_right _ (List.mem_append_right _ (List.mem_append_left _ (List.mem_of_getElem? h)))) hg
theorem P_t4 {w : Jvm.Cond} (j : Nat) (h : tables_1_4[j]? = some w) (hg : goodWord w = true) : w ∈ P_Tb := P_tbm (show w ∈ tables_1_1 ++ (tables_1_2 ++ (tables_1_3 ++ (tables_1_4 ++ (tables_1_5 ++ (tables_1_6))))) from List.mem_append_right _ (List.mem_append_right _ (List.mem_append_right _ (List.mem_append_left _ (List.mem_of_getElem? h))))) hg
theorem P_t5 {w : Jvm.Cond} (j : Nat) (h : tables_1_5[j]? = some w) (hg : goodWord w = true) : w ∈ P_Tb := P_tbm (show w ∈ tables_1_1 ++ (tables_1_2 ++ (tables_1_3 ++ (tables_1_4 ++ (tables_1_5 ++ (tables_1_6))))) from List.mem_append_right _ (List.mem_append_right _ (List.mem_append_right _ (List.mem_append_right _ (List.mem_append_left _ (List.mem_of_getElem? h)))))) hg
theorem P_t6 {w : Jvm.Cond} (j : Nat) (h : tables_1_6[j]? = some w) (hg : goodWord w = true) : w ∈ P_Tb := P_tbm (show w ∈ tables_1_1 ++ (tables_1_2 ++ (tables_1_3 ++ (tables_1_4 ++ (tables_1_5 ++ (tables_1_6))))) from List.mem_append_right _ (List.mem_append_right _ (List.mem_append_right _ (List.mem_append_right _ (List.mem_append_right _ (List.mem_of_getElem? h)))))) hg
theorem P_lt1 {w : Jvm.Cond} (j : Nat) (h : tables_1_1[j]? = some w) : w ∈ lw_tbl := List.mem_append_right _ (show w ∈ tables_1_1 ++ (tables_1_2 ++ (tables_1_3 ++ (tables_1_4 ++ (tables_1_5 ++ (tables_1_6))))) from List.mem_append_left _ (List.mem_of_getElem? h))
theorem P_lt2 {w : Jvm.Cond} (j : Nat) (h : tables_1_2[j]? = some w) : w ∈ lw_tbl := List.mem_append_right _ (show w ∈ tables_1_1 ++ (tables_1_2 ++ (tables_1_3 ++ (tables_1_4 ++ (tables_1_5 ++ (tables_1_6))))) from List.mem_append_right _ (List.mem_append_left _ (List.mem_of_getElem? h)))
theorem P_lt3 {w : Jvm.Cond} (j : Nat) (h : tables_1_3[j]? = some w) : w ∈ lw_tbl := List.mem_append_right _ (show w ∈ tables_1_1 ++ (tables_1_2 ++ (tables_1_3 ++ (tables_1_4 ++ (tables_1_5 ++ (tables_1_6))))) from List.mem_append_right _ (List.mem_append_right _ (List.mem_append_left _ (List.mem_of_getElem? h))))
theorem P_lt4 {w : Jvm.Cond} (j : Nat) (h : tables_1_4[j]? = some w) : w ∈ lw_tbl := List.mem_append_right _ (show w ∈ tables_1_1 ++ (tables_1_2 ++ (tables_1_3 ++ (tables_1_4 ++ (tables_1_5 ++ (tables_1_6))))) from List.mem_append_right _ (List.mem_append_right _ (List.mem_append_right _ (List.mem_append_left _ (List.mem_of_getElem? h)))))
theorem P_lt5 {w : Jvm.Cond} (j : Nat) (h : tables_1_5[j]? = some w) : w ∈ lw_tbl := List.mem_append_right _ (show w ∈ tables_1_1 ++ (tables_1_2 ++ (tables_1_3 ++ (tables_1_4 ++ (tables_1_5 ++ (tables_1_6))))) from List.mem_append_right _ (List.mem_append_right _ (List.mem_append_right _ (List.mem_append_right _ (List.mem_append_left _ (List.mem_of_getElem? h))))))
theorem P_lt6 {w : Jvm.Cond} (j : Nat) (h : tables_1_6[j]? = some w) : w ∈ lw_tbl := List.mem_append_right _ (show w ∈ tables_1_1 ++ (tables_1_2 ++ (tables_1_3 ++ (tables_1_4 ++ (tables_1_5 ++ (tables_1_6))))) from List.mem_append_right _ (List.mem_append_right _ (List.mem_append_right _ (List.mem_append_right _ (List.mem_append_right _ (List.mem_of_getElem? h))))))
theorem P_tp {w : Jvm.Cond} (j : Nat) (h : (k2_sels lw_privs)[j]? = some w) (hg : goodWord w = true) : w ∈ P_Tb := List.mem_append_left _ <| List.mem_append_right _ (List.mem_filter.mpr ⟨List.mem_append_left _ (List.mem_of_getElem? h), hg⟩)
/-- the parameters that a name tells of -/
theorem P_sg {d : String} (n : Nat) (h : (parseMethodDescriptor d).map (fun q => q.parameters.length) = some n) : ∀ sig, parseMethodDescriptor d = some sig → n = sig.parameters.length := by
  intro sig q
  rw [q] at h
  exact (Option.some.inj h).symm
