/-! TABLES of this claim, written by wip/gen.py: names -/
def RX0 : String := "OrchardQuery$Answer"
def TX0 : u_T := fun k => match k with
  | 0 => ("OrchardQuery$Walk", "form", "LOrchardQuery$Form;", true)
  | 1 => ("OrchardQuery$Walk", "plan", "LOrchardQuery$Plan;", true)
  | 2 => ("OrchardQuery$Walk", "rows", "[I", true)
  | 3 => ("OrchardQuery$Walk", "without", "I", false)
  | 4 => ("OrchardQuery$Walk", "most", "I", false)
  | 5 => ("OrchardQuery$Walk", "reads", "I", false)
  | 6 => ("OrchardQuery$Walk", "checks", "I", false)
  | 7 => ("OrchardQuery$Walk", "meetings", "I", false)
  | 8 => ("OrchardQuery$Answer", "groups", "LOrchardQuery$Groups;", true)
  | 9 => ("OrchardQuery$Answer", "found", "[I", true)
  | 10 => ("OrchardQuery$Answer", "readsAt", "[I", true)
  | 11 => ("OrchardQuery$Answer", "checksAt", "[I", true)
  | 12 => ("OrchardQuery$Answer", "keys", "[I", true)
  | 13 => ("OrchardQuery$Answer", "sorted", "[I", true)
  | 14 => ("OrchardQuery$Answer", "size", "I", false)
  | 15 => ("OrchardQuery$Answer", "resultCount", "I", false)
  | _ => ("OrchardQuery$Answer", "isKnown", "Z", false)
def tyX0 : Nat → FieldType := fun k => match k with
  | 0 => .object "OrchardQuery$Form"
  | 1 => .object "OrchardQuery$Plan"
  | 2 => .array .int
  | 3 => .int
  | 4 => .int
  | 5 => .int
  | 6 => .int
  | 7 => .int
  | 8 => .object "OrchardQuery$Groups"
  | 9 => .array .int
  | 10 => .array .int
  | 11 => .array .int
  | 12 => .array .int
  | 13 => .array .int
  | 14 => .int
  | 15 => .int
  | _ => .boolean
theorem nmX0 : ∀ a, a < 17 → ∀ b, b < 17 → a ≠ b → (TX0 a).2.1 ≠ (TX0 b).2.1 := by decide +kernel
theorem tyX0_ok : ∀ k, k < 17 → parseFieldDescriptor (TX0 k).2.2.1 = some (tyX0 k) := by decide +kernel
def RX1 : String := "OrchardQuery$Condition"
def TX1 : u_T := fun k => match k with
  | 0 => ("OrchardQuery$Condition", "left", "I", false)
  | 1 => ("OrchardQuery$Condition", "sign", "I", false)
  | 2 => ("OrchardQuery$Condition", "right", "I", false)
  | _ => ("OrchardQuery$Condition", "level", "I", false)
def tyX1 : Nat → FieldType := fun k => match k with
  | 0 => .int
  | 1 => .int
  | 2 => .int
  | _ => .int
theorem nmX1 : ∀ a, a < 4 → ∀ b, b < 4 → a ≠ b → (TX1 a).2.1 ≠ (TX1 b).2.1 := by decide +kernel
theorem tyX1_ok : ∀ k, k < 4 → parseFieldDescriptor (TX1 k).2.2.1 = some (tyX1 k) := by decide +kernel
def RX2 : String := "OrchardQuery$Count"
def TX2 : u_T := fun k => match k with
  | 0 => ("OrchardQuery$Walk", "form", "LOrchardQuery$Form;", true)
  | 1 => ("OrchardQuery$Walk", "plan", "LOrchardQuery$Plan;", true)
  | 2 => ("OrchardQuery$Walk", "rows", "[I", true)
  | 3 => ("OrchardQuery$Walk", "without", "I", false)
  | 4 => ("OrchardQuery$Walk", "most", "I", false)
  | 5 => ("OrchardQuery$Walk", "reads", "I", false)
  | 6 => ("OrchardQuery$Walk", "checks", "I", false)
  | _ => ("OrchardQuery$Walk", "meetings", "I", false)
def tyX2 : Nat → FieldType := fun k => match k with
  | 0 => .object "OrchardQuery$Form"
  | 1 => .object "OrchardQuery$Plan"
  | 2 => .array .int
  | 3 => .int
  | 4 => .int
  | 5 => .int
  | 6 => .int
  | _ => .int
theorem nmX2 : ∀ a, a < 8 → ∀ b, b < 8 → a ≠ b → (TX2 a).2.1 ≠ (TX2 b).2.1 := by decide +kernel
theorem tyX2_ok : ∀ k, k < 8 → parseFieldDescriptor (TX2 k).2.2.1 = some (tyX2 k) := by decide +kernel
def RX3 : String := "OrchardQuery$Form"
def TX3 : u_T := fun k => match k with
  | 0 => ("OrchardQuery$Form", "kinds", "[I", true)
  | 1 => ("OrchardQuery$Form", "columns", "[I", true)
  | 2 => ("OrchardQuery$Form", "tables", "[LOrchardQuery$Table;", true)
  | 3 => ("OrchardQuery$Form", "nowhere", "LOrchardQuery$Table;", true)
  | 4 => ("OrchardQuery$Form", "itemCount", "I", false)
  | 5 => ("OrchardQuery$Form", "seatCount", "I", false)
  | 6 => ("OrchardQuery$Form", "group", "I", false)
  | 7 => ("OrchardQuery$Form", "orderItem", "I", false)
  | _ => ("OrchardQuery$Form", "limit", "I", false)
def tyX3 : Nat → FieldType := fun k => match k with
  | 0 => .array .int
  | 1 => .array .int
  | 2 => .array (.object "OrchardQuery$Table")
  | 3 => .object "OrchardQuery$Table"
  | 4 => .int
  | 5 => .int
  | 6 => .int
  | 7 => .int
  | _ => .int
theorem nmX3 : ∀ a, a < 9 → ∀ b, b < 9 → a ≠ b → (TX3 a).2.1 ≠ (TX3 b).2.1 := by decide +kernel
theorem tyX3_ok : ∀ k, k < 9 → parseFieldDescriptor (TX3 k).2.2.1 = some (tyX3 k) := by decide +kernel
def RX4 : String := "OrchardQuery$Groups"
def TX4 : u_T := fun k => match k with
  | 0 => ("OrchardQuery$Groups", "form", "LOrchardQuery$Form;", true)
  | 1 => ("OrchardQuery$Groups", "counts", "[I", true)
  | 2 => ("OrchardQuery$Groups", "firsts", "[I", true)
  | _ => ("OrchardQuery$Groups", "sums", "[I", true)
def tyX4 : Nat → FieldType := fun k => match k with
  | 0 => .object "OrchardQuery$Form"
  | 1 => .array .int
  | 2 => .array .int
  | _ => .array .int
theorem nmX4 : ∀ a, a < 4 → ∀ b, b < 4 → a ≠ b → (TX4 a).2.1 ≠ (TX4 b).2.1 := by decide +kernel
theorem tyX4_ok : ∀ k, k < 4 → parseFieldDescriptor (TX4 k).2.2.1 = some (tyX4 k) := by decide +kernel
def RX5 : String := "OrchardQuery$Plan"
def TX5 : u_T := fun k => match k with
  | 0 => ("OrchardQuery$Plan", "form", "LOrchardQuery$Form;", true)
  | 1 => ("OrchardQuery$Plan", "conditions", "[LOrchardQuery$Condition;", true)
  | 2 => ("OrchardQuery$Plan", "nothing", "LOrchardQuery$Condition;", true)
  | 3 => ("OrchardQuery$Plan", "order", "[I", true)
  | 4 => ("OrchardQuery$Plan", "size", "I", false)
  | _ => ("OrchardQuery$Plan", "isNever", "Z", false)
def tyX5 : Nat → FieldType := fun k => match k with
  | 0 => .object "OrchardQuery$Form"
  | 1 => .array (.object "OrchardQuery$Condition")
  | 2 => .object "OrchardQuery$Condition"
  | 3 => .array .int
  | 4 => .int
  | _ => .boolean
theorem nmX5 : ∀ a, a < 6 → ∀ b, b < 6 → a ≠ b → (TX5 a).2.1 ≠ (TX5 b).2.1 := by decide +kernel
theorem tyX5_ok : ∀ k, k < 6 → parseFieldDescriptor (TX5 k).2.2.1 = some (tyX5 k) := by decide +kernel
def RX6 : String := "OrchardQuery$Pull"
def TX6 : u_T := fun k => match k with
  | 0 => ("OrchardQuery$Pull", "isBegun", "Z", false)
  | 1 => ("OrchardQuery$Pull", "pulled", "I", false)
  | 2 => ("OrchardQuery$Pull", "reads", "I", false)
  | _ => ("OrchardQuery$Pull", "checks", "I", false)
def tyX6 : Nat → FieldType := fun k => match k with
  | 0 => .boolean
  | 1 => .int
  | 2 => .int
  | _ => .int
theorem nmX6 : ∀ a, a < 4 → ∀ b, b < 4 → a ≠ b → (TX6 a).2.1 ≠ (TX6 b).2.1 := by decide +kernel
theorem tyX6_ok : ∀ k, k < 4 → parseFieldDescriptor (TX6 k).2.2.1 = some (tyX6 k) := by decide +kernel
def RX7 : String := "OrchardQuery$Query"
def TX7 : u_T := fun k => match k with
  | 0 => ("OrchardQuery$Query", "store", "LOrchardQuery$Store;", true)
  | 1 => ("OrchardQuery$Query", "form", "LOrchardQuery$Form;", true)
  | 2 => ("OrchardQuery$Query", "plan", "LOrchardQuery$Plan;", true)
  | 3 => ("OrchardQuery$Query", "tokens", "[I", true)
  | 4 => ("OrchardQuery$Query", "length", "I", false)
  | 5 => ("OrchardQuery$Query", "isRead", "Z", false)
  | 6 => ("OrchardQuery$Query", "fault", "I", false)
  | 7 => ("OrchardQuery$Query", "faultPlace", "I", false)
  | 8 => ("OrchardQuery$Query", "place", "I", false)
  | _ => ("OrchardQuery$Query", "orderPlace", "I", false)
def tyX7 : Nat → FieldType := fun k => match k with
  | 0 => .object "OrchardQuery$Store"
  | 1 => .object "OrchardQuery$Form"
  | 2 => .object "OrchardQuery$Plan"
  | 3 => .array .int
  | 4 => .int
  | 5 => .boolean
  | 6 => .int
  | 7 => .int
  | 8 => .int
  | _ => .int
theorem nmX7 : ∀ a, a < 10 → ∀ b, b < 10 → a ≠ b → (TX7 a).2.1 ≠ (TX7 b).2.1 := by decide +kernel
theorem tyX7_ok : ∀ k, k < 10 → parseFieldDescriptor (TX7 k).2.2.1 = some (tyX7 k) := by decide +kernel
def RX8 : String := "OrchardQuery$Store"
def TX8 : u_T := fun k => match k with
  | 0 => ("OrchardQuery$Store", "tables", "[LOrchardQuery$Table;", true)
  | 1 => ("OrchardQuery$Store", "nowhere", "LOrchardQuery$Table;", true)
  | _ => ("OrchardQuery$Store", "size", "I", false)
def tyX8 : Nat → FieldType := fun k => match k with
  | 0 => .array (.object "OrchardQuery$Table")
  | 1 => .object "OrchardQuery$Table"
  | _ => .int
theorem nmX8 : ∀ a, a < 3 → ∀ b, b < 3 → a ≠ b → (TX8 a).2.1 ≠ (TX8 b).2.1 := by decide +kernel
theorem tyX8_ok : ∀ k, k < 3 → parseFieldDescriptor (TX8 k).2.2.1 = some (tyX8 k) := by decide +kernel
def RX9 : String := "OrchardQuery$Table"
def TX9 : u_T := fun k => match k with
  | 0 => ("OrchardQuery$Table", "columns", "I", true)
  | 1 => ("OrchardQuery$Table", "cells", "[I", true)
  | 2 => ("OrchardQuery$Table", "varieties", "[I", true)
  | _ => ("OrchardQuery$Table", "rows", "I", false)
def tyX9 : Nat → FieldType := fun k => match k with
  | 0 => .int
  | 1 => .array .int
  | 2 => .array .int
  | _ => .int
theorem nmX9 : ∀ a, a < 4 → ∀ b, b < 4 → a ≠ b → (TX9 a).2.1 ≠ (TX9 b).2.1 := by decide +kernel
theorem tyX9_ok : ∀ k, k < 4 → parseFieldDescriptor (TX9 k).2.2.1 = some (tyX9 k) := by decide +kernel
def RX11 : String := "OrchardQuery"
def TX11 : u_T := fun k => match k with
  | 0 => ("OrchardQuery", "store", "LOrchardQuery$Store;", true)
  | 1 => ("OrchardQuery", "query", "LOrchardQuery$Query;", true)
  | 2 => ("OrchardQuery", "form", "LOrchardQuery$Form;", true)
  | 3 => ("OrchardQuery", "plan", "LOrchardQuery$Plan;", true)
  | 4 => ("OrchardQuery", "answer", "LOrchardQuery$Answer;", true)
  | 5 => ("OrchardQuery", "count", "LOrchardQuery$Count;", true)
  | _ => ("OrchardQuery", "pull", "LOrchardQuery$Pull;", true)
def tyX11 : Nat → FieldType := fun k => match k with
  | 0 => .object "OrchardQuery$Store"
  | 1 => .object "OrchardQuery$Query"
  | 2 => .object "OrchardQuery$Form"
  | 3 => .object "OrchardQuery$Plan"
  | 4 => .object "OrchardQuery$Answer"
  | 5 => .object "OrchardQuery$Count"
  | _ => .object "OrchardQuery$Pull"
theorem nmX11 : ∀ a, a < 7 → ∀ b, b < 7 → a ≠ b → (TX11 a).2.1 ≠ (TX11 b).2.1 := by decide +kernel
theorem tyX11_ok : ∀ k, k < 7 → parseFieldDescriptor (TX11 k).2.2.1 = some (tyX11 k) := by decide +kernel
def RX12 : String := "OrchardQueryModel"
def TX12 : u_T := fun k => match k with
  | 0 => ("OrchardQueryModel", "thrown", "I", false)
  | 1 => ("OrchardQueryModel", "tables", "I", false)
  | 2 => ("OrchardQueryModel", "columns", "[I", true)
  | 3 => ("OrchardQueryModel", "rows", "[I", true)
  | 4 => ("OrchardQueryModel", "value", "[I", true)
  | 5 => ("OrchardQueryModel", "tokens", "I", false)
  | 6 => ("OrchardQueryModel", "token", "[I", true)
  | 7 => ("OrchardQueryModel", "isRead", "Z", false)
  | 8 => ("OrchardQueryModel", "faultAt", "I", false)
  | 9 => ("OrchardQueryModel", "items", "I", false)
  | 10 => ("OrchardQueryModel", "item", "[I", true)
  | 11 => ("OrchardQueryModel", "isSum", "[Z", true)
  | 12 => ("OrchardQueryModel", "seats", "I", false)
  | 13 => ("OrchardQueryModel", "seat", "[I", true)
  | 14 => ("OrchardQueryModel", "group", "I", false)
  | 15 => ("OrchardQueryModel", "sortBy", "I", false)
  | 16 => ("OrchardQueryModel", "limit", "I", false)
  | 17 => ("OrchardQueryModel", "conditions", "I", false)
  | 18 => ("OrchardQueryModel", "left", "[I", true)
  | 19 => ("OrchardQueryModel", "how", "[I", true)
  | 20 => ("OrchardQueryModel", "right", "[I", true)
  | 21 => ("OrchardQueryModel", "level", "[I", true)
  | 22 => ("OrchardQueryModel", "order", "[I", true)
  | 23 => ("OrchardQueryModel", "isEmpty", "Z", false)
  | 24 => ("OrchardQueryModel", "isOpen", "Z", false)
  | 25 => ("OrchardQueryModel", "hasOne", "Z", false)
  | 26 => ("OrchardQueryModel", "pulled", "I", false)
  | 27 => ("OrchardQueryModel", "now", "[I", false)
  | 28 => ("OrchardQueryModel", "at", "[I", true)
  | 29 => ("OrchardQueryModel", "reads", "I", false)
  | 30 => ("OrchardQueryModel", "checks", "I", false)
  | 31 => ("OrchardQueryModel", "isAtStart", "Z", false)
  | 32 => ("OrchardQueryModel", "isAtEnd", "Z", false)
  | 33 => ("OrchardQueryModel", "place", "I", false)
  | _ => ("OrchardQueryModel", "gathered", "[[I", false)
def tyX12 : Nat → FieldType := fun k => match k with
  | 0 => .int
  | 1 => .int
  | 2 => .array .int
  | 3 => .array .int
  | 4 => .array .int
  | 5 => .int
  | 6 => .array .int
  | 7 => .boolean
  | 8 => .int
  | 9 => .int
  | 10 => .array .int
  | 11 => .array .boolean
  | 12 => .int
  | 13 => .array .int
  | 14 => .int
  | 15 => .int
  | 16 => .int
  | 17 => .int
  | 18 => .array .int
  | 19 => .array .int
  | 20 => .array .int
  | 21 => .array .int
  | 22 => .array .int
  | 23 => .boolean
  | 24 => .boolean
  | 25 => .boolean
  | 26 => .int
  | 27 => .array .int
  | 28 => .array .int
  | 29 => .int
  | 30 => .int
  | 31 => .boolean
  | 32 => .boolean
  | 33 => .int
  | _ => .array (.array .int)
theorem nmX12 : ∀ a, a < 35 → ∀ b, b < 35 → a ≠ b → (TX12 a).2.1 ≠ (TX12 b).2.1 := by decide +kernel
theorem tyX12_ok : ∀ k, k < 35 → parseFieldDescriptor (TX12 k).2.2.1 = some (tyX12 k) := by decide +kernel
abbrev P_cl : List vw_C := [(RX0, TX0, 17), (RX1, TX1, 4), (RX2, TX2, 8), (RX3, TX3, 9), (RX4, TX4, 4), (RX5, TX5, 6), (RX6, TX6, 4), (RX7, TX7, 10), (RX8, TX8, 3), (RX9, TX9, 4), (RX11, TX11, 7), (RX12, TX12, 35)]
def P_aty (k : Nat) : FieldType := match k with
  | 0 => .int
  | 1 => .long
  | 2 => .double
  | 3 => .boolean
  | k => if 100 ≤ k ∧ k < 200 then .object ((P_cl[k - 100]?).map Prod.fst |>.getD "") else .array .int
theorem P_atok0 : P_atok P_cl P_aty := by
  refine ⟨rfl, rfl, rfl, rfl, fun ci r h => ?_, fun k hk => ?_⟩
  · have hc : ci < 12 := (List.getElem?_eq_some_iff.mp h).1
    obtain ⟨j, hj⟩ : ∃ j, 100 + ci = j + 4 := ⟨96 + ci, by omega⟩
    rw [hj]
    show (if 100 ≤ j + 4 ∧ j + 4 < 200 then _ else _) = _
    rw [if_pos (by omega), ← hj, show 100 + ci - 100 = ci by omega, h]
    rfl
  · obtain ⟨j, rfl⟩ : ∃ j, k = j + 4 := ⟨k - 4, by omega⟩
    show (∃ C, (if 100 ≤ j + 4 ∧ j + 4 < 200 then _ else _) = _) ∨ ∃ t, (if 100 ≤ j + 4 ∧ j + 4 < 200 then _ else _) = _
    by_cases hq : 100 ≤ j + 4 ∧ j + 4 < 200
    · rw [if_pos hq]; exact Or.inl ⟨_, rfl⟩
    · rw [if_neg hq]; exact Or.inr ⟨_, rfl⟩
def P_Z1 : List (List Value) := [[.null, .null, .null, .int 0, .int 0, .int 0, .int 0, .int 0, .null, .null, .null, .null, .null, .null, .int 0, .int 0, .int 0], [.int 0, .int 0, .int 0, .int 0], [.null, .null, .null, .int 0, .int 0, .int 0, .int 0, .int 0], [.null, .null, .null, .null, .int 0, .int 0, .int 0, .int 0, .int 0], [.null, .null, .null, .null], [.null, .null, .null, .null, .int 0, .int 0], [.int 0, .int 0, .int 0, .int 0], [.null, .null, .null, .null, .int 0, .int 0, .int 0, .int 0, .int 0, .int 0], [.null, .null, .int 0], [.int 0, .null, .null, .int 0], [.null, .null, .null, .null, .null, .null, .null], [.int 0, .int 0, .null, .null, .null, .int 0, .null, .int 0, .int 0, .int 0, .null, .null, .int 0, .null, .int 0, .int 0, .int 0, .int 0, .null, .null, .null, .null, .null, .int 0, .int 0, .int 0, .int 0, .null, .null, .int 0, .int 0, .int 0, .int 0, .int 0, .null]]
def P_ftys : List (Nat → FieldType) := [tyX0, tyX1, tyX2, tyX3, tyX4, tyX5, tyX6, tyX7, tyX8, tyX9, tyX11, tyX12]
def P_subs : List (Nat × List Nat) := [(50, [0, 2])]
def P_subt (c ci : Nat) : Bool := match P_subs.lookup c with
  | some l => l.contains ci
  | none => decide (c = ci)
def P_Z0 : P_Z := (fun ci => (P_Z1[ci]?).getD [], P_subt, fun ci k => ((P_ftys[ci]?).getD (fun _ => .int)) k)
theorem P_s1 {c : Nat} {P : Nat → Prop} (hc : P_subs.lookup c = none) (h : P c) : ∀ ci, P_subt c ci = true → P ci := by
  intro ci q
  unfold P_subt at q
  rw [hc] at q
  have : c = ci := by simpa using q
  exact this ▸ h
theorem P_s2 {c : Nat} {l : List Nat} {P : Nat → Prop} (hc : P_subs.lookup c = some l) (h : ∀ ci ∈ l, P ci) : ∀ ci, P_subt c ci = true → P ci := by
  intro ci q
  unfold P_subt at q
  rw [hc] at q
  exact h ci (by simpa using q)
def P_nms : List (List MethodName) := [[⟨"OrchardQueryLaw", "law", "([I)Z"⟩, ⟨"OrchardQuery$Answer", "<init>", "(LOrchardQuery$Form;LOrchardQuery$Plan;)V"⟩, ⟨"OrchardQuery$Answer", "forget", "()V"⟩, ⟨"OrchardQuery$Answer", "bringUpToDate", "()V"⟩, ⟨"OrchardQuery$Answer", "mostNeeded", "()I"⟩, ⟨"OrchardQuery$Answer", "resultCount", "()I"⟩, ⟨"OrchardQuery$Answer", "readsFor", "(I)I"⟩, ⟨"OrchardQuery$Answer", "checksFor", "(I)I"⟩, ⟨"OrchardQuery$Answer", "valueOf", "(II)I"⟩, ⟨"OrchardQuery$Answer", "meet", "()V"⟩, ⟨"OrchardQuery$Answer", "listGroups", "()V"⟩, ⟨"OrchardQuery$Answer", "sortByItem", "(I)V"⟩, ⟨"OrchardQuery$Answer", "sortByKeys", "()V"⟩, ⟨"OrchardQuery$Answer", "smallestKeyBehind", "(I)I"⟩, ⟨"OrchardQuery$Condition", "<init>", "()V"⟩, ⟨"OrchardQuery$Condition", "become", "(IIII)V"⟩, ⟨"OrchardQuery$Condition", "isSameTwice", "()Z"⟩, ⟨"OrchardQuery$Condition", "joins", "()Z"⟩, ⟨"OrchardQuery$Condition", "fixes", "()Z"⟩, ⟨"OrchardQuery$Condition", "partnerOf", "(I)I"⟩],
  [⟨"OrchardQuery$Count", "<init>", "(LOrchardQuery$Form;LOrchardQuery$Plan;)V"⟩, ⟨"OrchardQuery$Count", "meet", "()V"⟩, ⟨"OrchardQuery$Form", "<init>", "()V"⟩, ⟨"OrchardQuery$Form", "begin", "()V"⟩, ⟨"OrchardQuery$Form", "addItem", "(II)V"⟩, ⟨"OrchardQuery$Form", "addSeat", "(LOrchardQuery$Table;)V"⟩, ⟨"OrchardQuery$Form", "groupBy", "(I)V"⟩, ⟨"OrchardQuery$Form", "orderBy", "(I)V"⟩, ⟨"OrchardQuery$Form", "limitTo", "(I)V"⟩, ⟨"OrchardQuery$Form", "itemCount", "()I"⟩, ⟨"OrchardQuery$Form", "seatCount", "()I"⟩, ⟨"OrchardQuery$Form", "group", "()I"⟩, ⟨"OrchardQuery$Form", "orderItem", "()I"⟩, ⟨"OrchardQuery$Form", "limit", "()I"⟩, ⟨"OrchardQuery$Form", "kindOf", "(I)I"⟩, ⟨"OrchardQuery$Form", "columnOfItem", "(I)I"⟩, ⟨"OrchardQuery$Form", "hasItem", "(I)Z"⟩, ⟨"OrchardQuery$Form", "hasSeat", "(I)Z"⟩, ⟨"OrchardQuery$Form", "tableOf", "(I)LOrchardQuery$Table;"⟩, ⟨"OrchardQuery$Form", "hasColumn", "(I)Z"⟩],
  [⟨"OrchardQuery$Form", "varietyOf", "(I)I"⟩, ⟨"OrchardQuery$Form", "rowsOfAllSeats", "()I"⟩, ⟨"OrchardQuery$Form", "isGathered", "()Z"⟩, ⟨"OrchardQuery$Form", "isStreamed", "()Z"⟩, ⟨"OrchardQuery$Groups", "<init>", "(LOrchardQuery$Form;)V"⟩, ⟨"OrchardQuery$Groups", "begin", "()V"⟩, ⟨"OrchardQuery$Groups", "gather", "(II)V"⟩, ⟨"OrchardQuery$Groups", "groupOf", "(I)I"⟩, ⟨"OrchardQuery$Groups", "countOf", "(I)I"⟩, ⟨"OrchardQuery$Groups", "nameOf", "(I)I"⟩, ⟨"OrchardQuery$Groups", "valueOf", "(II)I"⟩, ⟨"OrchardQuery$Groups", "cellOf", "(II)I"⟩, ⟨"OrchardQuery$Groups", "rowOf", "(II)I"⟩, ⟨"OrchardQuery$Plan", "<init>", "(LOrchardQuery$Form;)V"⟩, ⟨"OrchardQuery$Plan", "begin", "()V"⟩, ⟨"OrchardQuery$Plan", "conditionCount", "()I"⟩, ⟨"OrchardQuery$Plan", "hasCondition", "(I)Z"⟩, ⟨"OrchardQuery$Plan", "isNever", "()Z"⟩, ⟨"OrchardQuery$Plan", "seatAt", "(I)I"⟩, ⟨"OrchardQuery$Plan", "at", "(I)LOrchardQuery$Condition;"⟩],
  [⟨"OrchardQuery$Plan", "add", "(III)V"⟩, ⟨"OrchardQuery$Plan", "remove", "(I)V"⟩, ⟨"OrchardQuery$Plan", "tell", "(LOrchardQuery$Condition;I)I"⟩, ⟨"OrchardQuery$Plan", "lowOf", "(LOrchardQuery$Condition;)I"⟩, ⟨"OrchardQuery$Plan", "placeOf", "(I)I"⟩, ⟨"OrchardQuery$Plan", "partOf", "(LOrchardQuery$Condition;)I"⟩, ⟨"OrchardQuery$Plan", "guessAt", "(I)J"⟩, ⟨"OrchardQuery$Plan", "costOfAll", "()J"⟩, ⟨"OrchardQuery$Plan", "rowsAt", "(I)I"⟩, ⟨"OrchardQuery$Plan", "thinned", "(JI)J"⟩, ⟨"OrchardQuery$Plan", "applyRule", "(I)I"⟩, ⟨"OrchardQuery$Plan", "dropTrue", "()I"⟩, ⟨"OrchardQuery$Plan", "draw", "()I"⟩, ⟨"OrchardQuery$Plan", "drawsOne", "()Z"⟩, ⟨"OrchardQuery$Plan", "drawsFrom", "(LOrchardQuery$Condition;LOrchardQuery$Condition;)Z"⟩, ⟨"OrchardQuery$Plan", "isFixed", "(II)Z"⟩, ⟨"OrchardQuery$Plan", "bringDown", "()I"⟩, ⟨"OrchardQuery$Plan", "becomeNever", "()Z"⟩, ⟨"OrchardQuery$Plan", "contradict", "(LOrchardQuery$Condition;LOrchardQuery$Condition;)Z"⟩, ⟨"OrchardQuery$Plan", "exchange", "(II)V"⟩],
  [⟨"OrchardQuery$Plan", "takeBest", "()J"⟩, ⟨"OrchardQuery$Plan", "isOrder", "(I)Z"⟩, ⟨"OrchardQuery$Plan", "bringInto", "(I)V"⟩, ⟨"OrchardQuery$Pull", "<init>", "()V"⟩, ⟨"OrchardQuery$Pull", "begin", "()V"⟩, ⟨"OrchardQuery$Pull", "end", "()V"⟩, ⟨"OrchardQuery$Pull", "isBegun", "()Z"⟩, ⟨"OrchardQuery$Pull", "pulled", "()I"⟩, ⟨"OrchardQuery$Pull", "take", "(LOrchardQuery$Answer;)Z"⟩, ⟨"OrchardQuery$Pull", "tell", "(I)I"⟩, ⟨"OrchardQuery$Query", "<init>", "(LOrchardQuery$Store;LOrchardQuery$Form;LOrchardQuery$Plan;)V"⟩, ⟨"OrchardQuery$Query", "length", "()I"⟩, ⟨"OrchardQuery$Query", "isRead", "()Z"⟩, ⟨"OrchardQuery$Query", "faultPlace", "()I"⟩, ⟨"OrchardQuery$Query", "add", "(I)V"⟩, ⟨"OrchardQuery$Query", "empty", "()V"⟩, ⟨"OrchardQuery$Query", "forgetReading", "()V"⟩, ⟨"OrchardQuery$Query", "readThrough", "()I"⟩, ⟨"OrchardQuery$Query", "readsHead", "()Z"⟩, ⟨"OrchardQuery$Query", "readsTail", "()Z"⟩],
  [⟨"OrchardQuery$Query", "readsItems", "()Z"⟩, ⟨"OrchardQuery$Query", "readsItem", "()Z"⟩, ⟨"OrchardQuery$Query", "readsTables", "()Z"⟩, ⟨"OrchardQuery$Query", "readsConditions", "()Z"⟩, ⟨"OrchardQuery$Query", "readsCondition", "()Z"⟩, ⟨"OrchardQuery$Query", "readsGroup", "()Z"⟩, ⟨"OrchardQuery$Query", "readsOrder", "()Z"⟩, ⟨"OrchardQuery$Query", "readsLimit", "()Z"⟩, ⟨"OrchardQuery$Query", "findsColumns", "()Z"⟩, ⟨"OrchardQuery$Query", "findsOrderItem", "()Z"⟩, ⟨"OrchardQuery$Query", "ahead", "()I"⟩, ⟨"OrchardQuery$Query", "beginsItem", "(I)Z"⟩, ⟨"OrchardQuery$Query", "fails", "(II)Z"⟩, ⟨"OrchardQuery$Store", "<init>", "()V"⟩, ⟨"OrchardQuery$Store", "size", "()I"⟩, ⟨"OrchardQuery$Store", "has", "(I)Z"⟩, ⟨"OrchardQuery$Store", "at", "(I)LOrchardQuery$Table;"⟩, ⟨"OrchardQuery$Store", "add", "(I)I"⟩, ⟨"OrchardQuery$Table", "<init>", "(I)V"⟩, ⟨"OrchardQuery$Table", "columnCount", "()I"⟩],
  [⟨"OrchardQuery$Table", "rowCount", "()I"⟩, ⟨"OrchardQuery$Table", "isFull", "()Z"⟩, ⟨"OrchardQuery$Table", "cell", "(II)I"⟩, ⟨"OrchardQuery$Table", "add", "(III)V"⟩, ⟨"OrchardQuery$Table", "remove", "(I)V"⟩, ⟨"OrchardQuery$Table", "varietyOf", "(I)I"⟩, ⟨"OrchardQuery$Table", "countVarieties", "()V"⟩, ⟨"OrchardQuery$Table", "firstAlike", "(II)I"⟩, ⟨"OrchardQuery$Walk", "<init>", "(LOrchardQuery$Form;LOrchardQuery$Plan;)V"⟩, ⟨"OrchardQuery$Walk", "reads", "()I"⟩, ⟨"OrchardQuery$Walk", "checks", "()I"⟩, ⟨"OrchardQuery$Walk", "meetings", "()I"⟩, ⟨"OrchardQuery$Walk", "meeting", "()I"⟩, ⟨"OrchardQuery$Walk", "walk", "(II)V"⟩, ⟨"OrchardQuery$Walk", "goThrough", "(I)V"⟩, ⟨"OrchardQuery$Walk", "holdsAt", "(I)Z"⟩, ⟨"OrchardQuery$Walk", "valueNow", "(I)I"⟩, ⟨"OrchardQuery", "<init>", "()V"⟩, ⟨"OrchardQuery", "table", "(I)I"⟩, ⟨"OrchardQuery", "row", "(IIII)I"⟩],
  [⟨"OrchardQuery", "drop", "(II)I"⟩, ⟨"OrchardQuery", "variety", "(II)I"⟩, ⟨"OrchardQuery", "token", "(I)I"⟩, ⟨"OrchardQuery", "clear", "()I"⟩, ⟨"OrchardQuery", "read", "()I"⟩, ⟨"OrchardQuery", "faultAt", "()I"⟩, ⟨"OrchardQuery", "many", "(I)I"⟩, ⟨"OrchardQuery", "condition", "(II)I"⟩, ⟨"OrchardQuery", "rewrite", "(I)I"⟩, ⟨"OrchardQuery", "swap", "(II)I"⟩, ⟨"OrchardQuery", "best", "()J"⟩, ⟨"OrchardQuery", "order", "(I)I"⟩, ⟨"OrchardQuery", "guess", "(I)J"⟩, ⟨"OrchardQuery", "cost", "()J"⟩, ⟨"OrchardQuery", "isEmpty", "()Z"⟩, ⟨"OrchardQuery", "open", "()I"⟩, ⟨"OrchardQuery", "next", "()Z"⟩, ⟨"OrchardQuery", "value", "(I)I"⟩, ⟨"OrchardQuery", "done", "(I)I"⟩, ⟨"OrchardQuery", "results", "()I"⟩],
  [⟨"OrchardQuery", "result", "(II)I"⟩, ⟨"OrchardQuery", "wouldDo", "(I)I"⟩, ⟨"OrchardQuery", "meetingsWithout", "(I)I"⟩, ⟨"OrchardQuery", "share", "()D"⟩, ⟨"OrchardQuery", "digest", "()J"⟩, ⟨"OrchardQuery", "digestOfTable", "(JLOrchardQuery$Table;)J"⟩, ⟨"OrchardQuery", "digestOfPlan", "(J)J"⟩, ⟨"OrchardQuery", "digestOfResults", "(J)J"⟩, ⟨"OrchardQuery", "howMany", "(I)I"⟩, ⟨"OrchardQuery", "refuseUnread", "()V"⟩, ⟨"OrchardQuery", "becomeOther", "()V"⟩, ⟨"OrchardQuery", "mix", "(JJ)J"⟩, ⟨"OrchardQuery", "isValue", "(I)Z"⟩, ⟨"OrchardQuery", "isToken", "(I)Z"⟩, ⟨"OrchardQuery", "isTable", "(I)Z"⟩, ⟨"OrchardQuery", "isColumn", "(I)Z"⟩, ⟨"OrchardQuery", "isNumber", "(I)Z"⟩, ⟨"OrchardQuery", "seatOf", "(I)I"⟩, ⟨"OrchardQuery", "columnOf", "(I)I"⟩, ⟨"OrchardQuery", "get", "([II)I"⟩],
  [⟨"OrchardQuery", "put", "([III)V"⟩, ⟨"OrchardQuery", "fill", "([II)V"⟩, ⟨"OrchardQueryModel", "<init>", "()V"⟩, ⟨"OrchardQueryModel", "thrown", "()I"⟩, ⟨"OrchardQueryModel", "no", "(I)I"⟩, ⟨"OrchardQueryModel", "ok", "(I)I"⟩, ⟨"OrchardQueryModel", "isIn", "(III)Z"⟩, ⟨"OrchardQueryModel", "isTable", "(I)Z"⟩, ⟨"OrchardQueryModel", "table", "(I)I"⟩, ⟨"OrchardQueryModel", "valueAt", "(III)I"⟩, ⟨"OrchardQueryModel", "end", "()V"⟩, ⟨"OrchardQueryModel", "row", "(IIII)I"⟩, ⟨"OrchardQueryModel", "drop", "(II)I"⟩, ⟨"OrchardQueryModel", "varietyNow", "(II)I"⟩, ⟨"OrchardQueryModel", "variety", "(II)I"⟩, ⟨"OrchardQueryModel", "token", "(I)I"⟩, ⟨"OrchardQueryModel", "clear", "()I"⟩, ⟨"OrchardQueryModel", "word", "()I"⟩, ⟨"OrchardQueryModel", "isNext", "(II)Z"⟩, ⟨"OrchardQueryModel", "takes", "(I)Z"⟩],
  [⟨"OrchardQueryModel", "isColumnNext", "()Z"⟩, ⟨"OrchardQueryModel", "isNumberNext", "()Z"⟩, ⟨"OrchardQueryModel", "readItems", "()I"⟩, ⟨"OrchardQueryModel", "readTables", "()I"⟩, ⟨"OrchardQueryModel", "readConditions", "()I"⟩, ⟨"OrchardQueryModel", "readEnd", "()I"⟩, ⟨"OrchardQueryModel", "isThere", "(I)Z"⟩, ⟨"OrchardQueryModel", "lookAtColumns", "()I"⟩, ⟨"OrchardQueryModel", "readAll", "()I"⟩, ⟨"OrchardQueryModel", "read", "()I"⟩, ⟨"OrchardQueryModel", "faultAt", "()I"⟩, ⟨"OrchardQueryModel", "manyNow", "(I)I"⟩, ⟨"OrchardQueryModel", "many", "(I)I"⟩, ⟨"OrchardQueryModel", "isColumn", "(I)Z"⟩, ⟨"OrchardQueryModel", "seatOf", "(I)I"⟩, ⟨"OrchardQueryModel", "placeOf", "(I)I"⟩, ⟨"OrchardQueryModel", "low", "(I)I"⟩, ⟨"OrchardQueryModel", "varietyOf", "(I)I"⟩, ⟨"OrchardQueryModel", "part", "(I)I"⟩, ⟨"OrchardQueryModel", "ofNow", "(II)I"⟩],
  [⟨"OrchardQueryModel", "condition", "(II)I"⟩, ⟨"OrchardQueryModel", "dropCondition", "(I)V"⟩, ⟨"OrchardQueryModel", "has", "(II)Z"⟩, ⟨"OrchardQueryModel", "isDrawn", "(II)Z"⟩, ⟨"OrchardQueryModel", "draw", "()Z"⟩, ⟨"OrchardQueryModel", "isNever", "()Z"⟩, ⟨"OrchardQueryModel", "rewriteOnce", "(I)Z"⟩, ⟨"OrchardQueryModel", "rewrite", "(I)I"⟩, ⟨"OrchardQueryModel", "swap", "(II)I"⟩, ⟨"OrchardQueryModel", "guessNow", "(I)J"⟩, ⟨"OrchardQueryModel", "costNow", "()J"⟩, ⟨"OrchardQueryModel", "costBy", "(III)J"⟩, ⟨"OrchardQueryModel", "best", "()J"⟩, ⟨"OrchardQueryModel", "order", "(I)I"⟩, ⟨"OrchardQueryModel", "guess", "(I)J"⟩, ⟨"OrchardQueryModel", "cost", "()J"⟩, ⟨"OrchardQueryModel", "isEmpty", "()Z"⟩, ⟨"OrchardQueryModel", "valueOf", "(I)I"⟩, ⟨"OrchardQueryModel", "holds", "(I)Z"⟩, ⟨"OrchardQueryModel", "hold", "(II)Z"⟩],
  [⟨"OrchardQueryModel", "meet", "(I)Z"⟩, ⟨"OrchardQueryModel", "start", "()V"⟩, ⟨"OrchardQueryModel", "isTogether", "()Z"⟩, ⟨"OrchardQueryModel", "oneResult", "()[I"⟩, ⟨"OrchardQueryModel", "all", "()[[I"⟩, ⟨"OrchardQueryModel", "cut", "([[II)[[I"⟩, ⟨"OrchardQueryModel", "each", "()[[I"⟩, ⟨"OrchardQueryModel", "together", "()[[I"⟩, ⟨"OrchardQueryModel", "add", "([IZ)V"⟩, ⟨"OrchardQueryModel", "with", "([III)[I"⟩, ⟨"OrchardQueryModel", "with", "([[II[I)[[I"⟩, ⟨"OrchardQueryModel", "sort", "([[I)V"⟩, ⟨"OrchardQueryModel", "keep", "()[I"⟩, ⟨"OrchardQueryModel", "putBack", "([I)V"⟩, ⟨"OrchardQueryModel", "allAside", "()[[I"⟩, ⟨"OrchardQueryModel", "open", "()I"⟩, ⟨"OrchardQueryModel", "isAtOnce", "()Z"⟩, ⟨"OrchardQueryModel", "pull", "()Z"⟩, ⟨"OrchardQueryModel", "next", "()Z"⟩, ⟨"OrchardQueryModel", "value", "(I)I"⟩],
  [⟨"OrchardQueryModel", "doneNow", "(I)I"⟩, ⟨"OrchardQueryModel", "done", "(I)I"⟩, ⟨"OrchardQueryModel", "results", "()I"⟩, ⟨"OrchardQueryModel", "result", "(II)I"⟩, ⟨"OrchardQueryModel", "wouldNow", "(I)I"⟩, ⟨"OrchardQueryModel", "wouldDo", "(I)I"⟩, ⟨"OrchardQueryModel", "meetings", "(I)I"⟩, ⟨"OrchardQueryModel", "meetingsWithout", "(I)I"⟩, ⟨"OrchardQueryModel", "share", "()D"⟩, ⟨"OrchardQueryModel", "digest", "()J"⟩, ⟨"OrchardQueryLaw", "table", "(LOrchardQuery;I[J)I"⟩, ⟨"OrchardQueryLaw", "row", "(LOrchardQuery;IIII[J)I"⟩, ⟨"OrchardQueryLaw", "drop", "(LOrchardQuery;II[J)I"⟩, ⟨"OrchardQueryLaw", "variety", "(LOrchardQuery;II[J)I"⟩, ⟨"OrchardQueryLaw", "token", "(LOrchardQuery;I[J)I"⟩, ⟨"OrchardQueryLaw", "many", "(LOrchardQuery;I[J)I"⟩, ⟨"OrchardQueryLaw", "condition", "(LOrchardQuery;II[J)I"⟩, ⟨"OrchardQueryLaw", "rewrite", "(LOrchardQuery;I[J)I"⟩, ⟨"OrchardQueryLaw", "swap", "(LOrchardQuery;II[J)I"⟩, ⟨"OrchardQueryLaw", "best", "(LOrchardQuery;[J)I"⟩],
  [⟨"OrchardQueryLaw", "order", "(LOrchardQuery;I[J)I"⟩, ⟨"OrchardQueryLaw", "guess", "(LOrchardQuery;I[J)I"⟩, ⟨"OrchardQueryLaw", "cost", "(LOrchardQuery;[J)I"⟩, ⟨"OrchardQueryLaw", "isEmpty", "(LOrchardQuery;[J)I"⟩, ⟨"OrchardQueryLaw", "open", "(LOrchardQuery;[J)I"⟩, ⟨"OrchardQueryLaw", "next", "(LOrchardQuery;[J)I"⟩, ⟨"OrchardQueryLaw", "value", "(LOrchardQuery;I[J)I"⟩, ⟨"OrchardQueryLaw", "done", "(LOrchardQuery;I[J)I"⟩, ⟨"OrchardQueryLaw", "results", "(LOrchardQuery;[J)I"⟩, ⟨"OrchardQueryLaw", "result", "(LOrchardQuery;II[J)I"⟩, ⟨"OrchardQueryLaw", "wouldDo", "(LOrchardQuery;I[J)I"⟩, ⟨"OrchardQueryLaw", "meetingsWithout", "(LOrchardQuery;I[J)I"⟩, ⟨"OrchardQueryLaw", "share", "(LOrchardQuery;[D)I"⟩]]
def P_bts : List (List ByteArray) := [[code, prog_2_method_1_code, prog_2_method_2_code, prog_2_method_3_code, prog_2_method_4_code, prog_2_method_5_code, prog_2_method_6_code, prog_2_method_7_code, prog_2_method_8_code, prog_2_method_9_code, prog_2_method_10_code, prog_2_method_11_code, prog_2_method_12_code, prog_2_method_13_code, prog_3_method_1_code, prog_3_method_2_code, prog_3_method_3_code, prog_3_method_4_code, prog_3_method_5_code, prog_3_method_6_code],
  [prog_4_method_1_code, prog_4_method_2_code, prog_5_method_1_code, prog_5_method_2_code, prog_5_method_3_code, prog_5_method_4_code, prog_5_method_5_code, prog_5_method_6_code, prog_5_method_7_code, prog_5_method_8_code, prog_5_method_9_code, prog_5_method_10_code, prog_5_method_11_code, prog_5_method_12_code, prog_5_method_13_code, prog_5_method_14_code, prog_5_method_15_code, prog_5_method_16_code, prog_5_method_17_code, prog_5_method_18_code],
  [prog_5_method_19_code, prog_5_method_20_code, prog_5_method_21_code, prog_5_method_22_code, prog_6_method_1_code, prog_6_method_2_code, prog_6_method_3_code, prog_6_method_4_code, prog_6_method_5_code, prog_6_method_6_code, prog_6_method_7_code, prog_6_method_8_code, prog_6_method_9_code, prog_7_method_1_code, prog_7_method_2_code, prog_7_method_3_code, prog_7_method_4_code, prog_7_method_5_code, prog_7_method_6_code, prog_7_method_7_code],
  [prog_7_method_8_code, prog_7_method_9_code, prog_7_method_10_code, prog_7_method_11_code, prog_7_method_12_code, prog_7_method_13_code, prog_7_method_14_code, prog_7_method_15_code, prog_7_method_16_code, prog_7_method_17_code, prog_7_method_18_code, prog_7_method_19_code, prog_7_method_20_code, prog_7_method_21_code, prog_7_method_22_code, prog_7_method_23_code, prog_7_method_24_code, prog_7_method_25_code, prog_7_method_26_code, prog_7_method_27_code],
  [prog_7_method_28_code, prog_7_method_29_code, prog_7_method_30_code, prog_8_method_1_code, prog_8_method_2_code, prog_8_method_3_code, prog_8_method_4_code, prog_8_method_5_code, prog_8_method_6_code, prog_8_method_7_code, prog_9_method_1_code, prog_9_method_2_code, prog_9_method_3_code, prog_9_method_4_code, prog_9_method_5_code, prog_9_method_6_code, prog_9_method_7_code, prog_9_method_8_code, prog_9_method_9_code, prog_9_method_10_code],
  [prog_9_method_11_code, prog_9_method_12_code, prog_9_method_13_code, prog_9_method_14_code, prog_9_method_15_code, prog_9_method_16_code, prog_9_method_17_code, prog_9_method_18_code, prog_9_method_19_code, prog_9_method_20_code, prog_9_method_21_code, prog_9_method_22_code, prog_9_method_23_code, prog_10_method_1_code, prog_10_method_2_code, prog_10_method_3_code, prog_10_method_4_code, prog_10_method_5_code, prog_11_method_1_code, prog_11_method_2_code],
  [prog_11_method_3_code, prog_11_method_4_code, prog_11_method_5_code, prog_11_method_6_code, prog_11_method_7_code, prog_11_method_8_code, prog_11_method_9_code, prog_11_method_10_code, prog_12_method_1_code, prog_12_method_3_code, prog_12_method_4_code, prog_12_method_5_code, prog_12_method_6_code, prog_12_method_7_code, prog_12_method_8_code, prog_12_method_9_code, prog_12_method_10_code, prog_1_method_1_code, prog_1_method_2_code, prog_1_method_3_code],
  [prog_1_method_4_code, prog_1_method_5_code, prog_1_method_6_code, prog_1_method_7_code, prog_1_method_8_code, prog_1_method_9_code, prog_1_method_10_code, prog_1_method_11_code, prog_1_method_12_code, prog_1_method_13_code, prog_1_method_14_code, prog_1_method_15_code, prog_1_method_16_code, prog_1_method_17_code, prog_1_method_18_code, prog_1_method_19_code, prog_1_method_20_code, prog_1_method_21_code, prog_1_method_22_code, prog_1_method_23_code],
  [prog_1_method_24_code, prog_1_method_25_code, prog_1_method_26_code, prog_1_method_27_code, prog_1_method_28_code, prog_1_method_29_code, prog_1_method_30_code, prog_1_method_31_code, prog_1_method_32_code, prog_1_method_33_code, prog_1_method_34_code, prog_1_method_35_code, prog_1_method_36_code, prog_1_method_37_code, prog_1_method_38_code, prog_1_method_39_code, prog_1_method_40_code, prog_1_method_41_code, prog_1_method_42_code, prog_1_method_43_code],
  [prog_1_method_44_code, prog_1_method_45_code, prog_14_method_1_code, prog_14_method_2_code, prog_14_method_3_code, prog_14_method_4_code, prog_14_method_5_code, prog_14_method_6_code, prog_14_method_7_code, prog_14_method_8_code, prog_14_method_9_code, prog_14_method_10_code, prog_14_method_11_code, prog_14_method_12_code, prog_14_method_13_code, prog_14_method_14_code, prog_14_method_15_code, prog_14_method_16_code, prog_14_method_17_code, prog_14_method_18_code],
  [prog_14_method_19_code, prog_14_method_20_code, prog_14_method_21_code, prog_14_method_22_code, prog_14_method_23_code, prog_14_method_24_code, prog_14_method_25_code, prog_14_method_26_code, prog_14_method_27_code, prog_14_method_28_code, prog_14_method_29_code, prog_14_method_30_code, prog_14_method_31_code, prog_14_method_32_code, prog_14_method_33_code, prog_14_method_34_code, prog_14_method_35_code, prog_14_method_36_code, prog_14_method_37_code, prog_14_method_38_code],
  [prog_14_method_39_code, prog_14_method_40_code, prog_14_method_41_code, prog_14_method_42_code, prog_14_method_43_code, prog_14_method_44_code, prog_14_method_45_code, prog_14_method_46_code, prog_14_method_47_code, prog_14_method_48_code, prog_14_method_49_code, prog_14_method_50_code, prog_14_method_51_code, prog_14_method_52_code, prog_14_method_53_code, prog_14_method_54_code, prog_14_method_55_code, prog_14_method_56_code, prog_14_method_57_code, prog_14_method_58_code],
  [prog_14_method_59_code, prog_14_method_60_code, prog_14_method_61_code, prog_14_method_62_code, prog_14_method_63_code, prog_14_method_64_code, prog_14_method_65_code, prog_14_method_66_code, prog_14_method_67_code, prog_14_method_68_code, prog_14_method_69_code, prog_14_method_70_code, prog_14_method_71_code, prog_14_method_72_code, prog_14_method_73_code, prog_14_method_74_code, prog_14_method_75_code, prog_14_method_76_code, prog_14_method_77_code, prog_14_method_78_code],
  [prog_14_method_79_code, prog_14_method_80_code, prog_14_method_81_code, prog_14_method_82_code, prog_14_method_83_code, prog_14_method_84_code, prog_14_method_85_code, prog_14_method_86_code, prog_14_method_87_code, prog_14_method_88_code, method_3_code, method_4_code, method_5_code, method_6_code, method_7_code, method_8_code, method_9_code, method_10_code, method_11_code, method_12_code],
  [method_13_code, method_14_code, method_15_code, method_16_code, method_17_code, method_18_code, method_19_code, method_20_code, method_21_code, method_22_code, method_23_code, method_24_code, method_25_code]]
def P_hhs : List (Nat × List (Nat × Nat × Nat × Nat)) := [(270, [(0, 9, 12, 13), (0, 9, 15, 15)]), (271, [(0, 14, 17, 21), (0, 14, 21, 13), (0, 14, 25, 15)]), (272, [(0, 10, 13, 21)]), (273, [(0, 10, 13, 21)]), (274, [(0, 9, 12, 13), (0, 9, 15, 15)]), (275, [(0, 9, 12, 13)]), (276, [(0, 10, 13, 15), (0, 10, 17, 21), (0, 10, 21, 13)]), (277, [(0, 9, 12, 15), (0, 9, 15, 13)]), (278, [(0, 10, 13, 15), (0, 10, 17, 21)]), (279, [(0, 7, 10, 15)]), (280, [(0, 9, 12, 15), (0, 9, 15, 21)]), (281, [(0, 8, 11, 15), (0, 8, 14, 21)]), (282, [(0, 7, 10, 15)]), (283, [(0, 15, 18, 15)]), (284, [(0, 8, 11, 15)]), (285, [(0, 15, 18, 15)]), (286, [(0, 9, 12, 15), (0, 9, 15, 21)]), (287, [(0, 9, 12, 15), (0, 9, 15, 13)]), (288, [(0, 8, 11, 15)]), (289, [(0, 10, 13, 15), (0, 10, 17, 21)]), (290, [(0, 9, 12, 15), (0, 9, 15, 13)]), (291, [(0, 9, 12, 15), (0, 9, 15, 21)]), (292, [(0, 7, 10, 15)])]
def P_inis : List Nat := [1, 14, 20, 22, 44, 53, 83, 90, 113, 118, 128, 137, 182]
def P_N0 : P_N := (P_at P_nms ⟨"", "", ""⟩, P_at P_bts code, fun y => (P_hhs.lookup y).getD [], fun y => P_inis.contains y, fun E => (["java/lang/IllegalArgumentException", "java/lang/IllegalStateException", "java/lang/IndexOutOfBoundsException"][E]?).getD "")
def P_xs : List Jvm.Cond := [Jvm.Cond.selects "OrchardQuery$Count" (⟨"OrchardQuery$Walk", "goThrough", "(I)V"⟩ : MethodName) (⟨"OrchardQuery$Walk", "goThrough", "(I)V"⟩ : MethodName), Jvm.Cond.selects "OrchardQuery$Answer" (⟨"OrchardQuery$Walk", "goThrough", "(I)V"⟩ : MethodName) (⟨"OrchardQuery$Walk", "goThrough", "(I)V"⟩ : MethodName), Jvm.Cond.selects "OrchardQuery$Count" (⟨"OrchardQuery$Walk", "holdsAt", "(I)Z"⟩ : MethodName) (⟨"OrchardQuery$Walk", "holdsAt", "(I)Z"⟩ : MethodName), Jvm.Cond.selects "OrchardQuery$Answer" (⟨"OrchardQuery$Walk", "holdsAt", "(I)Z"⟩ : MethodName) (⟨"OrchardQuery$Walk", "holdsAt", "(I)Z"⟩ : MethodName), Jvm.Cond.selects "OrchardQuery$Count" (⟨"OrchardQuery$Walk", "valueNow", "(I)I"⟩ : MethodName) (⟨"OrchardQuery$Walk", "valueNow", "(I)I"⟩ : MethodName), Jvm.Cond.selects "OrchardQuery$Answer" (⟨"OrchardQuery$Walk", "valueNow", "(I)I"⟩ : MethodName) (⟨"OrchardQuery$Walk", "valueNow", "(I)I"⟩ : MethodName)]
def P_Tg : List Jvm.Cond := P_xs ++ lw_tbl.filter goodWord
def P_T2 : List Jvm.Cond := [(Jvm.Cond.arrayOver (Jvm.ClassFile.FieldType.object "OrchardQuery$Table")),
  (Jvm.Cond.arrayOver (Jvm.ClassFile.FieldType.object "OrchardQuery$Condition")),
  (Jvm.Cond.methodLinkNest "OrchardQuery$Plan" (21 : Nat) ({ cls := "OrchardQuery$Condition", name := "<init>", desc := "()V" } : Jvm.MethodName) "OrchardQuery"),
  (Jvm.Cond.fieldLinkNest "OrchardQuery$Plan" (60 : Nat) "OrchardQuery$Condition" "left" "I" "OrchardQuery"),
  (Jvm.Cond.fieldLinkNest "OrchardQuery$Walk" (95 : Nat) "OrchardQuery$Condition" "left" "I" "OrchardQuery"),
  (Jvm.Cond.fieldLinkNest "OrchardQuery$Plan" (63 : Nat) "OrchardQuery$Condition" "sign" "I" "OrchardQuery"),
  (Jvm.Cond.fieldLinkNest "OrchardQuery$Walk" (104 : Nat) "OrchardQuery$Condition" "sign" "I" "OrchardQuery"),
  (Jvm.Cond.fieldLinkNest "OrchardQuery$Plan" (66 : Nat) "OrchardQuery$Condition" "right" "I" "OrchardQuery"),
  (Jvm.Cond.fieldLinkNest "OrchardQuery$Walk" (101 : Nat) "OrchardQuery$Condition" "right" "I" "OrchardQuery"),
  (Jvm.Cond.fieldLinkNest "OrchardQuery$Walk" (90 : Nat) "OrchardQuery$Condition" "level" "I" "OrchardQuery"),
  (Jvm.Cond.fieldLinkNest "OrchardQuery$Plan" (69 : Nat) "OrchardQuery$Condition" "level" "I" "OrchardQuery"),
  (Jvm.Cond.methodLinkNest "OrchardQuery" (59 : Nat) ({ cls := "OrchardQuery$Pull", name := "<init>", desc := "()V" } : Jvm.MethodName) "OrchardQuery"),
  (Jvm.Cond.fieldLinkNest "OrchardQuery$Plan" (172 : Nat) "OrchardQuery" "ORDERS" "[I" "OrchardQuery"),
  (Jvm.Cond.methodLinkNest "OrchardQuery$Plan" (42 : Nat) ({ cls := "OrchardQuery", name := "get", desc := "([II)I" } : Jvm.MethodName) "OrchardQuery"),
  (Jvm.Cond.methodLinkNest "OrchardQuery$Plan" (79 : Nat) ({ cls := "OrchardQuery", name := "seatOf", desc := "(I)I" } : Jvm.MethodName) "OrchardQuery"),
  (Jvm.Cond.methodLinkNest "OrchardQuery$Plan" (86 : Nat) ({ cls := "OrchardQuery", name := "isColumn", desc := "(I)Z" } : Jvm.MethodName) "OrchardQuery"),
  (Jvm.Cond.methodLinkNest "OrchardQuery$Query" (151 : Nat) ({ cls := "OrchardQuery", name := "get", desc := "([II)I" } : Jvm.MethodName) "OrchardQuery"),
  (Jvm.Cond.methodLinkNest "OrchardQuery$Query" (109 : Nat) ({ cls := "OrchardQuery", name := "isColumn", desc := "(I)Z" } : Jvm.MethodName) "OrchardQuery"),
  (Jvm.Cond.methodLinkNest "OrchardQuery$Form" (48 : Nat) ({ cls := "OrchardQuery", name := "put", desc := "([III)V" } : Jvm.MethodName) "OrchardQuery"),
  (Jvm.Cond.methodLinkNest "OrchardQuery$Query" (112 : Nat) ({ cls := "OrchardQuery", name := "isTable", desc := "(I)Z" } : Jvm.MethodName) "OrchardQuery"),
  (Jvm.Cond.methodLinkNest "OrchardQuery$Query" (131 : Nat) ({ cls := "OrchardQuery", name := "isNumber", desc := "(I)Z" } : Jvm.MethodName) "OrchardQuery"),
  (Jvm.Cond.methodLinkNest "OrchardQuery$Form" (56 : Nat) ({ cls := "OrchardQuery", name := "columnOf", desc := "(I)I" } : Jvm.MethodName) "OrchardQuery"),
  (Jvm.Cond.methodLinkNest "OrchardQuery$Form" (60 : Nat) ({ cls := "OrchardQuery", name := "seatOf", desc := "(I)I" } : Jvm.MethodName) "OrchardQuery"),
  (Jvm.Cond.methodLinkNest "OrchardQuery$Table" (36 : Nat) ({ cls := "OrchardQuery", name := "get", desc := "([II)I" } : Jvm.MethodName) "OrchardQuery"),
  (Jvm.Cond.methodLinkNest "OrchardQuery$Groups" (25 : Nat) ({ cls := "OrchardQuery", name := "fill", desc := "([II)V" } : Jvm.MethodName) "OrchardQuery"),
  (Jvm.Cond.methodLinkNest "OrchardQuery$Form" (52 : Nat) ({ cls := "OrchardQuery", name := "get", desc := "([II)I" } : Jvm.MethodName) "OrchardQuery"),
  (Jvm.Cond.declares ({ cls := "OrchardQuery$Walk", name := "walk", desc := "(II)V" } : Jvm.MethodName)),
  (Jvm.Cond.methodLinkNest "OrchardQuery$Walk" (43 : Nat) ({ cls := "OrchardQuery", name := "fill", desc := "([II)V" } : Jvm.MethodName) "OrchardQuery"),
  (Jvm.Cond.methodLinkNest "OrchardQuery$Walk" (72 : Nat) ({ cls := "OrchardQuery", name := "put", desc := "([III)V" } : Jvm.MethodName) "OrchardQuery"),
  (Jvm.Cond.methodLinkNest "OrchardQuery$Walk" (107 : Nat) ({ cls := "OrchardQuery", name := "isNumber", desc := "(I)Z" } : Jvm.MethodName) "OrchardQuery"),
  (Jvm.Cond.methodLinkNest "OrchardQuery$Walk" (110 : Nat) ({ cls := "OrchardQuery", name := "seatOf", desc := "(I)I" } : Jvm.MethodName) "OrchardQuery"),
  (Jvm.Cond.methodLinkNest "OrchardQuery$Walk" (33 : Nat) ({ cls := "OrchardQuery", name := "get", desc := "([II)I" } : Jvm.MethodName) "OrchardQuery"),
  (Jvm.Cond.methodLinkNest "OrchardQuery$Walk" (113 : Nat) ({ cls := "OrchardQuery", name := "columnOf", desc := "(I)I" } : Jvm.MethodName) "OrchardQuery"),
  (Jvm.Cond.declares ({ cls := "OrchardQuery$Walk", name := "meet", desc := "()V" } : Jvm.MethodName)),
  (Jvm.Cond.declares ({ cls := "OrchardQuery$Walk", name := "meeting", desc := "()I" } : Jvm.MethodName)),
  (Jvm.Cond.methodLinkNest "OrchardQuery$Groups" (57 : Nat) ({ cls := "OrchardQuery", name := "seatOf", desc := "(I)I" } : Jvm.MethodName) "OrchardQuery"),
  (Jvm.Cond.methodLinkNest "OrchardQuery$Groups" (67 : Nat) ({ cls := "OrchardQuery", name := "columnOf", desc := "(I)I" } : Jvm.MethodName) "OrchardQuery"),
  (Jvm.Cond.methodLinkNest "OrchardQuery$Groups" (29 : Nat) ({ cls := "OrchardQuery", name := "get", desc := "([II)I" } : Jvm.MethodName) "OrchardQuery"),
  (Jvm.Cond.methodLinkNest "OrchardQuery$Groups" (33 : Nat) ({ cls := "OrchardQuery", name := "put", desc := "([III)V" } : Jvm.MethodName) "OrchardQuery"),
  (Jvm.Cond.methodLinkNest "OrchardQuery$Answer" (130 : Nat) ({ cls := "OrchardQuery", name := "put", desc := "([III)V" } : Jvm.MethodName) "OrchardQuery"),
  (Jvm.Cond.declares ({ cls := "OrchardQuery$Walk", name := "reads", desc := "()I" } : Jvm.MethodName)),
  (Jvm.Cond.declares ({ cls := "OrchardQuery$Walk", name := "checks", desc := "()I" } : Jvm.MethodName)),
  (Jvm.Cond.methodLinkNest "OrchardQuery$Answer" (101 : Nat) ({ cls := "OrchardQuery", name := "get", desc := "([II)I" } : Jvm.MethodName) "OrchardQuery"),
  (Jvm.Cond.castable "java/lang/IllegalArgumentException" "java/lang/IllegalArgumentException"),
  (Jvm.Cond.declares ({ cls := "java/lang/RuntimeException", name := "<init>", desc := "()V" } : Jvm.MethodName)),
  (Jvm.Cond.declares ({ cls := "java/lang/RuntimeException", name := "<init>", desc := "(Ljava/lang/String;)V" } : Jvm.MethodName)),
  (Jvm.Cond.declares ({ cls := "java/lang/Exception", name := "<init>", desc := "()V" } : Jvm.MethodName)),
  (Jvm.Cond.declares ({ cls := "java/lang/Exception", name := "<init>", desc := "(Ljava/lang/String;)V" } : Jvm.MethodName)),
  (Jvm.Cond.declares ({ cls := "java/lang/Throwable", name := "<init>", desc := "()V" } : Jvm.MethodName)),
  (Jvm.Cond.declares ({ cls := "java/lang/Throwable", name := "<init>", desc := "(Ljava/lang/String;)V" } : Jvm.MethodName)),
  (Jvm.Cond.castable "java/lang/IllegalStateException" "java/lang/IllegalStateException"),
  (Jvm.Cond.castable "java/lang/IndexOutOfBoundsException" "java/lang/IndexOutOfBoundsException"),
  (Jvm.Cond.methodLinkNest "OrchardQuery$Table" (29 : Nat) ({ cls := "OrchardQuery", name := "put", desc := "([III)V" } : Jvm.MethodName) "OrchardQuery"),
  (Jvm.Cond.methodLinkNest "OrchardQuery$Query" (38 : Nat) ({ cls := "OrchardQuery", name := "put", desc := "([III)V" } : Jvm.MethodName) "OrchardQuery"),
  (Jvm.Cond.methodLinkNest "OrchardQuery$Condition" (24 : Nat) ({ cls := "OrchardQuery", name := "isColumn", desc := "(I)Z" } : Jvm.MethodName) "OrchardQuery"),
  (Jvm.Cond.methodLinkNest "OrchardQuery$Condition" (28 : Nat) ({ cls := "OrchardQuery", name := "isNumber", desc := "(I)Z" } : Jvm.MethodName) "OrchardQuery"),
  (Jvm.Cond.methodLinkNest "OrchardQuery$Plan" (166 : Nat) ({ cls := "OrchardQuery", name := "put", desc := "([III)V" } : Jvm.MethodName) "OrchardQuery"),
  (Jvm.Cond.declares ({ cls := "OrchardQuery$Walk", name := "meetings", desc := "()I" } : Jvm.MethodName)),
  (Jvm.Cond.arrayOver (Jvm.ClassFile.FieldType.array Jvm.ClassFile.FieldType.int))]
abbrev P_Tb : List Jvm.Cond := P_Tg ++ P_T2
theorem P_T2ok : ∀ w ∈ P_T2, P_wm w :=
  P_all_cons P_wm_ao <|
  P_all_cons P_wm_ao <|
  P_all_cons P_wm_mn <|
  P_all_cons P_wm_fn <|
  P_all_cons P_wm_fn <|
  P_all_cons P_wm_fn <|
  P_all_cons P_wm_fn <|
  P_all_cons P_wm_fn <|
  P_all_cons P_wm_fn <|
  P_all_cons P_wm_fn <|
  P_all_cons P_wm_fn <|
  P_all_cons P_wm_mn <|
  P_all_cons P_wm_fn <|
  P_all_cons P_wm_mn <|
  P_all_cons P_wm_mn <|
  P_all_cons P_wm_mn <|
  P_all_cons P_wm_mn <|
  P_all_cons P_wm_mn <|
  P_all_cons P_wm_mn <|
  P_all_cons P_wm_mn <|
  P_all_cons P_wm_mn <|
  P_all_cons P_wm_mn <|
  P_all_cons P_wm_mn <|
  P_all_cons P_wm_mn <|
  P_all_cons P_wm_mn <|
  P_all_cons P_wm_mn <|
  P_all_cons P_wm_de <|
  P_all_cons P_wm_mn <|
  P_all_cons P_wm_mn <|
  P_all_cons P_wm_mn <|
  P_all_cons P_wm_mn <|
  P_all_cons P_wm_mn <|
  P_all_cons P_wm_mn <|
  P_all_cons P_wm_de <|
  P_all_cons P_wm_de <|
  P_all_cons P_wm_mn <|
  P_all_cons P_wm_mn <|
  P_all_cons P_wm_mn <|
  P_all_cons P_wm_mn <|
  P_all_cons P_wm_mn <|
  P_all_cons P_wm_de <|
  P_all_cons P_wm_de <|
  P_all_cons P_wm_mn <|
  P_all_cons P_wm_ca <|
  P_all_cons P_wm_de <|
  P_all_cons P_wm_de <|
  P_all_cons P_wm_de <|
  P_all_cons P_wm_de <|
  P_all_cons P_wm_de <|
  P_all_cons P_wm_de <|
  P_all_cons P_wm_ca <|
  P_all_cons P_wm_ca <|
  P_all_cons P_wm_mn <|
  P_all_cons P_wm_mn <|
  P_all_cons P_wm_mn <|
  P_all_cons P_wm_mn <|
  P_all_cons P_wm_mn <|
  P_all_cons P_wm_de <|
  P_all_cons P_wm_ar <|
  P_all_nil
theorem P_tbm {w : Jvm.Cond} (h : w ∈ tables_1) (hg : goodWord w = true) : w ∈ P_Tb := List.mem_append_left _ <| List.mem_append_right _ (List.mem_filter.mpr ⟨List.mem_append_right _ h, hg⟩)
theorem P_t1 {w : Jvm.Cond} (j : Nat) (h : tables_1_1[j]? = some w) (hg : goodWord w = true) : w ∈ P_Tb := P_tbm (show w ∈ tables_1_1 ++ (tables_1_2 ++ (tables_1_3 ++ (tables_1_4 ++ (tables_1_5 ++ (tables_1_6 ++ (tables_1_7 ++ (tables_1_8))))))) from List.mem_append_left _ (List.mem_of_getElem? h)) hg
theorem P_t2 {w : Jvm.Cond} (j : Nat) (h : tables_1_2[j]? = some w) (hg : goodWord w = true) : w ∈ P_Tb := P_tbm (show w ∈ tables_1_1 ++ (tables_1_2 ++ (tables_1_3 ++ (tables_1_4 ++ (tables_1_5 ++ (tables_1_6 ++ (tables_1_7 ++ (tables_1_8))))))) from List.mem_append_right _ (List.mem_append_left _ (List.mem_of_getElem? h))) hg
theorem P_t3 {w : Jvm.Cond} (j : Nat) (h : tables_1_3[j]? = some w) (hg : goodWord w = true) : w ∈ P_Tb := P_tbm (show w ∈ tables_1_1 ++ (tables_1_2 ++ (tables_1_3 ++ (tables_1_4 ++ (tables_1_5 ++ (tables_1_6 ++ (tables_1_7 ++ (tables_1_8))))))) from List.mem_append_right _ (List.mem_append_right _ (List.mem_append_left _ (List.mem_of_getElem? h)))) hg
theorem P_t4 {w : Jvm.Cond} (j : Nat) (h : tables_1_4[j]? = some w) (hg : goodWord w = true) : w ∈ P_Tb := P_tbm (show w ∈ tables_1_1 ++ (tables_1_2 ++ (tables_1_3 ++ (tables_1_4 ++ (tables_1_5 ++ (tables_1_6 ++ (tables_1_7 ++ (tables_1_8))))))) from List.mem_append_right _ (List.mem_append_right _ (List.mem_append_right _ (List.mem_append_left _ (List.mem_of_getElem? h))))) hg
theorem P_t5 {w : Jvm.Cond} (j : Nat) (h : tables_1_5[j]? = some w) (hg : goodWord w = true) : w ∈ P_Tb := P_tbm (show w ∈ tables_1_1 ++ (tables_1_2 ++ (tables_1_3 ++ (tables_1_4 ++ (tables_1_5 ++ (tables_1_6 ++ (tables_1_7 ++ (tables_1_8))))))) from List.mem_append_right _ (List.mem_append_right _ (List.mem_append_right _ (List.mem_append_right _ (List.mem_append_left _ (List.mem_of_getElem? h)))))) hg
theorem P_t6 {w : Jvm.Cond} (j : Nat) (h : tables_1_6[j]? = some w) (hg : goodWord w = true) : w ∈ P_Tb := P_tbm (show w ∈ tables_1_1 ++ (tables_1_2 ++ (tables_1_3 ++ (tables_1_4 ++ (tables_1_5 ++ (tables_1_6 ++ (tables_1_7 ++ (tables_1_8))))))) from List.mem_append_right _ (List.mem_append_right _ (List.mem_append_right _ (List.mem_append_right _ (List.mem_append_right _ (List.mem_append_left _ (List.mem_of_getElem? h))))))) hg
theorem P_t7 {w : Jvm.Cond} (j : Nat) (h : tables_1_7[j]? = some w) (hg : goodWord w = true) : w ∈ P_Tb := P_tbm (show w ∈ tables_1_1 ++ (tables_1_2 ++ (tables_1_3 ++ (tables_1_4 ++ (tables_1_5 ++ (tables_1_6 ++ (tables_1_7 ++ (tables_1_8))))))) from List.mem_append_right _ (List.mem_append_right _ (List.mem_append_right _ (List.mem_append_right _ (List.mem_append_right _ (List.mem_append_right _ (List.mem_append_left _ (List.mem_of_getElem? h)))))))) hg
theorem P_t8 {w : Jvm.Cond} (j : Nat) (h : tables_1_8[j]? = some w) (hg : goodWord w = true) : w ∈ P_Tb := P_tbm (show w ∈ tables_1_1 ++ (tables_1_2 ++ (tables_1_3 ++ (tables_1_4 ++ (tables_1_5 ++ (tables_1_6 ++ (tables_1_7 ++ (tables_1_8))))))) from List.mem_append_right _ (List.mem_append_right _ (List.mem_append_right _ (List.mem_append_right _ (List.mem_append_right _ (List.mem_append_right _ (List.mem_append_right _ (List.mem_of_getElem? h)))))))) hg
theorem P_lt1 {w : Jvm.Cond} (j : Nat) (h : tables_1_1[j]? = some w) : w ∈ lw_tbl := List.mem_append_right _ (show w ∈ tables_1_1 ++ (tables_1_2 ++ (tables_1_3 ++ (tables_1_4 ++ (tables_1_5 ++ (tables_1_6 ++ (tables_1_7 ++ (tables_1_8))))))) from List.mem_append_left _ (List.mem_of_getElem? h))
theorem P_lt2 {w : Jvm.Cond} (j : Nat) (h : tables_1_2[j]? = some w) : w ∈ lw_tbl := List.mem_append_right _ (show w ∈ tables_1_1 ++ (tables_1_2 ++ (tables_1_3 ++ (tables_1_4 ++ (tables_1_5 ++ (tables_1_6 ++ (tables_1_7 ++ (tables_1_8))))))) from List.mem_append_right _ (List.mem_append_left _ (List.mem_of_getElem? h)))
theorem P_lt3 {w : Jvm.Cond} (j : Nat) (h : tables_1_3[j]? = some w) : w ∈ lw_tbl := List.mem_append_right _ (show w ∈ tables_1_1 ++ (tables_1_2 ++ (tables_1_3 ++ (tables_1_4 ++ (tables_1_5 ++ (tables_1_6 ++ (tables_1_7 ++ (tables_1_8))))))) from List.mem_append_right _ (List.mem_append_right _ (List.mem_append_left _ (List.mem_of_getElem? h))))
theorem P_lt4 {w : Jvm.Cond} (j : Nat) (h : tables_1_4[j]? = some w) : w ∈ lw_tbl := List.mem_append_right _ (show w ∈ tables_1_1 ++ (tables_1_2 ++ (tables_1_3 ++ (tables_1_4 ++ (tables_1_5 ++ (tables_1_6 ++ (tables_1_7 ++ (tables_1_8))))))) from List.mem_append_right _ (List.mem_append_right _ (List.mem_append_right _ (List.mem_append_left _ (List.mem_of_getElem? h)))))
theorem P_lt5 {w : Jvm.Cond} (j : Nat) (h : tables_1_5[j]? = some w) : w ∈ lw_tbl := List.mem_append_right _ (show w ∈ tables_1_1 ++ (tables_1_2 ++ (tables_1_3 ++ (tables_1_4 ++ (tables_1_5 ++ (tables_1_6 ++ (tables_1_7 ++ (tables_1_8))))))) from List.mem_append_right _ (List.mem_append_right _ (List.mem_append_right _ (List.mem_append_right _ (List.mem_append_left _ (List.mem_of_getElem? h))))))
theorem P_lt6 {w : Jvm.Cond} (j : Nat) (h : tables_1_6[j]? = some w) : w ∈ lw_tbl := List.mem_append_right _ (show w ∈ tables_1_1 ++ (tables_1_2 ++ (tables_1_3 ++ (tables_1_4 ++ (tables_1_5 ++ (tables_1_6 ++ (tables_1_7 ++ (tables_1_8))))))) from List.mem_append_right _ (List.mem_append_right _ (List.mem_append_right _ (List.mem_append_right _ (List.mem_append_right _ (List.mem_append_left _ (List.mem_of_getElem? h)))))))
theorem P_lt7 {w : Jvm.Cond} (j : Nat) (h : tables_1_7[j]? = some w) : w ∈ lw_tbl := List.mem_append_right _ (show w ∈ tables_1_1 ++ (tables_1_2 ++ (tables_1_3 ++ (tables_1_4 ++ (tables_1_5 ++ (tables_1_6 ++ (tables_1_7 ++ (tables_1_8))))))) from List.mem_append_right _ (List.mem_append_right _ (List.mem_append_right _ (List.mem_append_right _ (List.mem_append_right _ (List.mem_append_right _ (List.mem_append_left _ (List.mem_of_getElem? h))))))))
theorem P_lt8 {w : Jvm.Cond} (j : Nat) (h : tables_1_8[j]? = some w) : w ∈ lw_tbl := List.mem_append_right _ (show w ∈ tables_1_1 ++ (tables_1_2 ++ (tables_1_3 ++ (tables_1_4 ++ (tables_1_5 ++ (tables_1_6 ++ (tables_1_7 ++ (tables_1_8))))))) from List.mem_append_right _ (List.mem_append_right _ (List.mem_append_right _ (List.mem_append_right _ (List.mem_append_right _ (List.mem_append_right _ (List.mem_append_right _ (List.mem_of_getElem? h))))))))
theorem P_tp {w : Jvm.Cond} (j : Nat) (h : (k2_sels lw_privs)[j]? = some w) (hg : goodWord w = true) : w ∈ P_Tb := List.mem_append_left _ <| List.mem_append_right _ (List.mem_filter.mpr ⟨List.mem_append_left _ (List.mem_of_getElem? h), hg⟩)
/-- the parameters that a name tells of -/
theorem P_sg {d : String} (n : Nat) (h : (parseMethodDescriptor d).map (fun q => q.parameters.length) = some n) : ∀ sig, parseMethodDescriptor d = some sig → n = sig.parameters.length := by
  intro sig q
  rw [q] at h
  exact (Option.some.inj h).symm
