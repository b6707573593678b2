/-! THE TIE, 7a: rows of empty rows, made at once -/
/-- the row of rows, when i of its rows are made -/
def P_mo (cA : ClassId) (N h0 i : Nat) : Cell := arrV cA N (fun j => if j < i then .ref (h0 + 1 + j) else .null)
/-- an empty row -/
def P_mi (cE : ClassId) : Cell := { cls := cE, slots := Array.replicate 0 .null, vm := .none }
def P_mf (s : State) (cA cE : ClassId) (N : Nat) : Nat → State
  | 0 => s.pushCell (P_mo cA N s.heap.size 0)
  | i + 1 => ((P_mf s cA cE N i).pushCell (P_mi cE)).setCell s.heap.size ((P_mo cA N s.heap.size i).setSlot i (.ref (s.heap.size + 1 + i)))
theorem P_mo_s {cA : ClassId} {N h0 i : Nat} : (P_mo cA N h0 i).setSlot i (.ref (h0 + 1 + i)) = P_mo cA N h0 (i + 1) := by
  unfold P_mo
  rw [arrV_store]
  congr 1
  funext q
  by_cases hq : q = i
  · subst hq
    simp [updV]
  · by_cases h2 : q < i
    · simp [updV, hq, h2, Nat.lt_succ_of_lt h2]
    · have h3 : ¬ q < i + 1 := by omega
      simp [updV, hq, h2, h3]
theorem P_mo_0 {cA : ClassId} {N h0 : Nat} : P_mo cA N h0 0 = { cls := cA, slots := Array.replicate N .null, vm := .none } := by
  unfold P_mo
  rw [arrV_new]
  congr 1
theorem P_mf_f (s : State) (cA cE : ClassId) (N : Nat) : ∀ i, (P_mf s cA cE N i).heap.size = s.heap.size + 1 + i ∧ (P_mf s cA cE N i).heap[s.heap.size]? = some (P_mo cA N s.heap.size i) ∧ (P_mf s cA cE N i).vm = s.vm ∧ (P_mf s cA cE N i).slotsUsed = s.slotsUsed + N
  | 0 => by
    have e : (P_mo cA N s.heap.size 0).slots.size = N := arrV_size _ _ _
    exact ⟨by simp [P_mf], by simp [P_mf], rfl, by simp [P_mf, e]⟩
  | i + 1 => by
    obtain ⟨a, b, d, u⟩ := P_mf_f s cA cE N i
    have hlt : s.heap.size < (P_mf s cA cE N i).heap.size := by omega
    have hb' : ((P_mf s cA cE N i).pushCell (P_mi cE)).heap[s.heap.size]? = some (P_mo cA N s.heap.size i) := by rw [State.heap_pushCell_of_lt (h := hlt)]; exact b
    refine ⟨?_, ?_, by simp [P_mf, d], ?_⟩
    · simp [P_mf, State.setCell, a]; omega
    · rw [← P_mo_s]
      exact State.heap_setCell_self hb'
    · simp [P_mf, u, P_mi]
theorem P_mf_top (s : State) (f : JFrame) (cA cE : ClassId) (N : Nat) : ∀ i, P_mf (s.setTop f) cA cE N i = (P_mf s cA cE N i).setTop f
  | 0 => rfl
  | i + 1 => by simp only [P_mf, P_mf_top s f cA cE N i, State.heap_setTop, State.pushCell_setTop, State.setCell_setTop]
theorem P_mf_old (s : State) (cA cE : ClassId) (N : Nat) {a : Addr} (ha : a < s.heap.size) : ∀ i, (P_mf s cA cE N i).heap[a]? = s.heap[a]?
  | 0 => State.heap_pushCell_of_lt _ _ ha
  | i + 1 => by
    have f1 := (P_mf_f s cA cE N i).1
    have hlt : a < (P_mf s cA cE N i).heap.size := Nat.lt_of_lt_of_le ha (by rw [f1]; omega)
    show (((P_mf s cA cE N i).pushCell (P_mi cE)).setCell s.heap.size _).heap[a]? = _
    rw [State.heap_setCell_other (Nat.ne_of_gt ha), State.heap_pushCell_of_lt (h := hlt)]
    exact P_mf_old s cA cE N ha i
theorem P_mf_in (s : State) (cA cE : ClassId) (N : Nat) : ∀ i j, j < i → (P_mf s cA cE N i).heap[s.heap.size + 1 + j]? = some (P_mi cE)
  | 0, _, h => absurd h (Nat.not_lt_zero _)
  | i + 1, j, h => by
    have f1 := (P_mf_f s cA cE N i).1
    show (((P_mf s cA cE N i).pushCell (P_mi cE)).setCell s.heap.size _).heap[s.heap.size + 1 + j]? = _
    rw [State.heap_setCell_other (show s.heap.size ≠ s.heap.size + 1 + j by omega)]
    rcases Nat.lt_or_ge j i with hj | hj
    · have hlt : s.heap.size + 1 + j < (P_mf s cA cE N i).heap.size := by omega
      rw [State.heap_pushCell_of_lt (h := hlt)]
      exact P_mf_in s cA cE N i j hj
    · have e : j = i := by omega
      subst e
      rw [← f1]
      exact State.heap_pushCell_size _ _
section MK
variable {E : CtlPost} {e : Env} {d : Bool} {acts : List Action} {s : State}
/-- the model's making of a row of nothing -/
theorem P_mrow {c comp : ClassId} {k : Class} {type : FieldType} {len : Nat} (hk : s.vm.classes[c]? = some k) (hkind : k.kind = .array comp type) (hlimit : ¬ len > e.platform.arrayLengthLimit) (hheap : ¬ len * componentBytes type > e.platform.maxHeapBytes) (hfit : fits type .null = true) {Q : Addr → Pre}
    (h1 : s.heap.size < e.platform.maxCells) (h2 : s.slotsUsed + len ≤ e.platform.maxSlots) (hq : Q s.heap.size d acts (s.pushCell { cls := c, slots := Array.replicate len .null, vm := .none })) : wp (Jvm.newArray c len .null) Q E e d acts s := by
  have hfits : ∀ i v, (Array.replicate len Value.null)[i]? = some v → s.fitsSlot c .none i v = true := by
    intro i v hv
    simp only [Array.getElem?_replicate] at hv
    split at hv
    · cases hv
      simp [State.fitsSlot, State.slotType?, hk, hkind, hfit]
    · cases hv
  have hda : allocActs (Array.replicate len Value.null) s.heap.size acts = acts := by
    have hall : ((Array.replicate len Value.null).all (·.isDefault)) = true := by
      rw [Array.all_replicate]
      split <;> simp [Value.isDefault]
    unfold allocActs
    rw [if_pos hall]
  simp only [Jvm.newArray, Jvm.arrayFits, wp_bind', Jvm.W.ask, Jvm.W.ite, hlimit, if_false, wp_pure', Jvm.W.theClass, hk, hkind, hheap, Jvm.W.alloc, Jvm.W.stop, Option.some.injEq, exists_eq_left', Array.size_replicate, hda]
  rw [if_neg (by omega)]
  exact ⟨h1, h2, hfits, hq⟩
/-- rows of empty rows, in the model -/
theorem P_make {c comp cc : ClassId} {k kc : Class} {t u : FieldType} {n : Int32} (hk : s.vm.classes[c]? = some k) (hkind : k.kind = .array comp (.array t)) (hkc : s.vm.classes[comp]? = some kc) (hkindc : kc.kind = .array cc t) (ht : t = .array u) (hn : ¬ n < 0)
    (hl1 : ¬ n.toNatClampNeg > e.platform.arrayLengthLimit) (hh1 : ¬ n.toNatClampNeg * 4 > e.platform.maxHeapBytes)
    (hc : s.heap.size + 1 + n.toNatClampNeg ≤ e.platform.maxCells) (hs : s.slotsUsed + n.toNatClampNeg ≤ e.platform.maxSlots)
    {Q : Addr → Pre} (hq : ∀ d' acts', Q s.heap.size d' acts' (P_mf s c comp n.toNatClampNeg n.toNatClampNeg)) :
    wp (multianewarray.make c [n, 0]) Q E e d acts s := by
  subst ht
  have hfind : ([(0 : Int32)].find? (· < 0)) = none := by decide
  rw [multianewarray.make]
  simp only [wp_bind', Jvm.W.ite, hn, if_false, wp_pure', Jvm.W.theClass, hk, hkind, Option.some.injEq, exists_eq_left']
  refine P_mrow hk hkind hl1 hh1 rfl (by omega) hs ?_
  simp only [hfind]
  rw [ite_self, wp_bind', Std.Legacy.Range.forIn_eq_forIn_range']
  have hsz : ([:n.toNatClampNeg] : Std.Legacy.Range).size = n.toNatClampNeg := by simp [Std.Legacy.Range.size]
  rw [hsz]
  show wp (forIn (List.range' 0 n.toNatClampNeg 1) PUnit.unit _) _ E e d acts _
  refine wp_forIn_inv (fun rest s' => ∃ i, i ≤ n.toNatClampNeg ∧ rest = List.range' i (n.toNatClampNeg - i) ∧ s' = P_mf s c comp n.toNatClampNeg i) _ _ ⟨0, Nat.zero_le _, rfl, by unfold P_mf; rw [P_mo_0]⟩ ?_ ?_
  · rintro x rest s' d' acts' Q' ⟨i, hi, hl, rfl⟩ hnext
    have hlt : i < n.toNatClampNeg := by
      rcases Nat.lt_or_ge i n.toNatClampNeg with h | h
      · exact h
      · rw [show n.toNatClampNeg - i = 0 by omega] at hl
        simp at hl
    obtain ⟨rfl, hrest⟩ : x = i ∧ rest = List.range' (i + 1) (n.toNatClampNeg - (i + 1)) := by
      rw [show n.toNatClampNeg - i = (n.toNatClampNeg - (i + 1)) + 1 by omega, List.range'_succ] at hl
      exact ⟨(List.cons.inj hl).1, (List.cons.inj hl).2⟩
    obtain ⟨f1, f2, f3, f4⟩ := P_mf_f s c comp n.toNatClampNeg x
    simp only [wp_bind']
    rw [multianewarray.make]
    have h00 : ¬ (0 : Int32) < 0 := by decide
    have hkc' : (P_mf s c comp n.toNatClampNeg x).vm.classes[comp]? = some kc := by rw [f3]; exact hkc
    simp only [wp_bind', Jvm.W.ite, h00, if_false, wp_pure', Jvm.W.theClass, hkc', hkindc, Option.some.injEq, exists_eq_left']
    have hz : (0 : Int32).toNatClampNeg = 0 := by decide
    rw [hz]
    refine P_mrow hkc' hkindc (by omega) (by omega) rfl (by omega) (by omega) ?_
    have hlt0 : s.heap.size < (P_mf s c comp n.toNatClampNeg x).heap.size := by rw [f1]; omega
    have o2 : (P_mo c n.toNatClampNeg s.heap.size x).vm = .none := rfl
    have o1 : (P_mo c n.toNatClampNeg s.heap.size x).cls = c := rfl
    have o3 : (P_mo c n.toNatClampNeg s.heap.size x).slots.size = n.toNatClampNeg := arrV_size _ _ _
    simp only [wp_bind', Jvm.W.writeLoc, wp_pure']
    refine ⟨P_mo c n.toNatClampNeg s.heap.size x, by rw [State.heap_pushCell_of_lt (h := hlt0)]; exact f2, by rw [o2]; simp, by rw [o3]; exact hlt, ?_, hnext _ _ _ ⟨x + 1, hlt, hrest, ?_⟩⟩
    · rw [o1, o2]
      simp [State.fitsSlot, State.slotType?, f3, hk, hkind, fits]
    · rw [f1]
      rfl
  · rintro s' d' acts' ⟨i, hi, hl, rfl⟩
    have hiN : i = n.toNatClampNeg := by
      rcases Nat.lt_or_ge i n.toNatClampNeg with h | h
      · rw [show n.toNatClampNeg - i = (n.toNatClampNeg - (i + 1)) + 1 by omega, List.range'_succ] at hl
        cases hl
      · omega
    subst hiN
    simp only [wp_pure']
    exact hq _ _
end MK
section MS
variable {p : Program} {l : Launch} {e : Env} {R : Room} {s : State} {m : MethodId} {args : Array Value} {below : List Frame} {meth : Method} {c : Code} {T : State} {H : Heap} {locs : List Loc} {cells slots : Nat} {Q : State → Prop}
theorem P_mst (X : Stand p l e R s m args below meth c T locs cells slots) (cA cE : ClassId) (N : Nat) : ∀ i, Stand p l e R s m args below meth c (P_mf T cA cE N i) (locs ++ (List.range i).map fun j => ⟨T.heap.size, j⟩) (cells + 1 + i) (slots + N)
  | 0 => by
    have h := X.pushed (P_mo cA N T.heap.size 0)
    rw [show (P_mo cA N T.heap.size 0).slots.size = N from arrV_size _ _ _] at h
    simpa [P_mf] using h
  | i + 1 => by
    have Xi := P_mst X cA cE N i
    obtain ⟨f1, f2, f3, f4⟩ := P_mf_f T cA cE N i
    have hlt0 : T.heap.size < (P_mf T cA cE N i).heap.size := by rw [f1]; omega
    have hcell : ((P_mf T cA cE N i).pushCell (P_mi cE)).heap[T.heap.size]? = some (P_mo cA N T.heap.size i) := by rw [State.heap_pushCell_of_lt (h := hlt0)]; exact f2
    have h := (Xi.pushed (P_mi cE)).stored hcell i (.ref (T.heap.size + 1 + i))
    have e1 : (P_mi cE).slots.size = 0 := by simp [P_mi]
    rw [e1] at h
    have e2 : (locs ++ (List.range (i + 1)).map fun j => (⟨T.heap.size, j⟩ : Loc)) = (locs ++ (List.range i).map fun j => (⟨T.heap.size, j⟩ : Loc)) ++ [⟨T.heap.size, i⟩] := by simp [List.range_succ, List.append_assoc]
    rw [e2]
    exact h
theorem P_Wmna {cc : ByteArray} (hx : p.tables.exec = Jvm.exec) (hb : c.code = cc) {own : String} {index : Nat} {t u : FieldType} (ht : t = .array u) (hown : s.vm.findClass own = some m.cls) (hclink : (Jvm.Cond.classLink own index ("[" ++ (FieldType.array t).toString)).before args s = true) (hover : (Jvm.Cond.arrayOver (.array t)).before args s = true) (hover2 : (Jvm.Cond.arrayOver t).before args s = true)
    {g : JFrame} (hg : g.method = m) (hdg : decode cc g.pc = .ok (.multianewarray index 2, 4)) {n : Int32} {rest : List Value} (hstack : g.stack = .int 0 :: .int n :: rest) (hn : ¬ n < 0) (hbytes : n.toNatClampNeg * 4 ≤ 536870912) (hcells : cells + (1 + n.toNatClampNeg) ≤ R.cells) (hslots : slots + n.toNatClampNeg ≤ R.slots)
    (kk : ∀ (cA cE : ClassId) (H1 : Heap), ArrOfT s cA (.array t) → va_RA s cA (.array t) → ArrOfT s cE t → va_RA s cE t → H1.size = H.size + 1 + n.toNatClampNeg → H1[H.size]? = some (P_mo cA n.toNatClampNeg H.size n.toNatClampNeg) → (∀ j, j < n.toNatClampNeg → H1[H.size + 1 + j]? = some (P_mi cE)) → (∀ a, a < H.size → H1[a]? = H[a]?) →
      W p l e R s m args below meth c H1 locs (cells + 1 + n.toNatClampNeg) (slots + n.toNatClampNeg) Q { g with pc := g.pc + 4, stack := .ref H.size :: rest }) : W p l e R s m args below meth c H locs cells slots Q g := by
  intro T hT X
  subst hT; subst hb; subst hg; subst ht
  have hpl : e.platform.magicAccessors = ({} : Platform).magicAccessors := by rw [X.admits.platform]
  obtain ⟨comp, cA, kA, hcomp, -, hkA, hkindA, hnameA⟩ := arrayOverA_spec hover
  obtain ⟨comp2, cE, kE, hcomp2, -, hkE, hkindE, hnameE⟩ := arrayOverA_spec hover2
  have ecomp : comp = cE := Option.some.inj (hcomp.symm.trans (show s.vm.findClass (FieldType.array (.array u)).toString = some cE from hnameE))
  subst ecomp
  obtain ⟨c0, hfc0, hcl⟩ := Cond.classLink_spec hown hclink e.platform hpl
  cases hnameA.symm.trans hfc0
  obtain ⟨hg₁, hwarm₁, hready₁⟩ := State.classEntry (e := e) X.warmed hcl
  generalize T.vm.noted g.method.cls index (.cls cA) = vm₁ at hg₁ hwarm₁ hready₁
  have hal : s.vm.Alike vm₁ := hwarm₁.alike
  obtain ⟨kA₁, hkA₁, heA⟩ := hal.2.2 _ _ hkA
  obtain ⟨kC₁, hkC₁, heC⟩ := hal.2.2 _ _ hkE
  have hkindA₁ : kA₁.kind = .array comp (.array (.array u)) := by rw [heA]; exact hkindA
  have hkindC₁ : kC₁.kind = .array comp2 (.array u) := by rw [heC]; exact hkindE
  have X₁ := X.noted hwarm₁
  obtain ⟨hr1, hr2⟩ := X.roomAbove hcells hslots
  have hl1 : ¬ n.toNatClampNeg > e.platform.arrayLengthLimit := by rw [Launch.admits_arrayLengthLimit X.admits]; omega
  have hh1 : ¬ n.toNatClampNeg * 4 > e.platform.maxHeapBytes := by rw [Launch.admits_maxHeapBytes X.admits]; omega
  have XF0 := P_mst X₁ cA comp n.toNatClampNeg n.toNatClampNeg
  have XF := XF0.dropFresh (fun x hx => by
    obtain ⟨j, -, rfl⟩ := List.mem_map.mp hx
    exact X.heapGrown)
  obtain ⟨f1, f2, f3, f4⟩ := P_mf_f (T.setVm vm₁) cA comp n.toNatClampNeg n.toNatClampNeg
  obtain ⟨t', a1, b1⟩ := kk cA comp _ (fun N z => ⟨(fun k h => by cases h), kA, hkA, comp, hkindA⟩) hnameA (fun N z => ⟨(fun k h => by cases h), kE, hkE, comp2, hkindE⟩) hnameE f1 f2 (fun j hj => P_mf_in _ _ _ _ _ _ hj) (fun a ha => P_mf_old (T.setVm vm₁) _ _ _ ha _) (P_mf (T.setVm vm₁) cA comp n.toNatClampNeg n.toNatClampNeg) rfl XF
  refine ⟨t', ?_, b1⟩
  jvm_step X.here [hx, hdg]
  simp only [multianewarray.sem, wp_bind', Jvm.W.resolveClassAt_links (State.method?_setTop g X.here.top) hg₁]
  rw [Jvm.W.popN, if_neg (by decide)]
  refine ⟨g, State.topJava?_setTop' (s := T.setVm vm₁) g X.here.top, [.int n, .int 0], rest, rfl, hstack, ?_⟩
  simp only [List.mapM_cons, List.mapM_nil, wp_bind', wp_pure']
  refine P_make (k := kA₁) (kc := kC₁) (comp := comp) (cc := comp2) (t := .array u) (u := u) hkA₁ hkindA₁ hkC₁ hkindC₁ rfl hn hl1 hh1 (by show T.heap.size + 1 + _ ≤ _; omega) (by show T.slotsUsed + _ ≤ _; omega) (fun d' acts' => ?_)
  have eS : ((T.setTop g).setVm vm₁).setTop { g with stack := rest } = (T.setVm vm₁).setTop { g with stack := rest } := by
    show ((T.setVm vm₁).setTop g).setTop _ = _
    rw [State.setTop_setTop]
  rw [eS, P_mf_top]
  simp only [wp_bind', Jvm.W.mark, Jvm.W.pushRef, State.topJava?_setTop' _ XF.here.top, Option.some.injEq, exists_eq_left', State.setTop_setTop, State.heap_setTop]
  intro acts
  simp [jvm, XF.here.top]
  exact a1
end MS
section MN
variable {p : Program} {l : Launch} {e : Env} {R : Room} {s : State} {m : MethodId} {args : Array Value} {below : List Frame} {meth : Method} {c : Code} {H : Heap} {locs : List Loc} {cells slots : Nat} {Q : State → Prop} {cc : ByteArray} {pc nL : Nat} {ls : Array Slot} {rest : List Value} {L L1 st st1 st' : List Value}
variable {cl : List vw_C} {aty : Nat → FieldType} {nro : Nat} {stat : P_T} {D : va_G} {A : Nat → Prop} {ro : List Nat} {ws : va_W} {tys : List (ClassId × FieldType)} {h h1 : P_H} {Z : P_Z} {Tb : List Jvm.Cond} {own : String} {ini : Bool} {r1 : Int} {r2 : Nat}
/-- the new cells: the row of rows, its rows -/
def P_mw (cA cE : ClassId) (n h0 : Nat) : va_W := (h0, .inl (cA, n, .inr (.inr (.inr (.inr (fun j => if j < n then some (h0 + 1 + j) else none)))))) :: (List.range n).map (fun j => (h0 + 1 + j, .inl (cE, 0, .inr (.inr (.inr (.inr (fun _ => none)))))))
theorem P_mw_at {cA cE : ClassId} {n h0 j : Nat} {x : Nat × va_E} (h : (P_mw cA cE n h0)[j]? = some x) : x.1 = h0 + j ∧ (j = 0 ∧ x.2 = .inl (cA, n, .inr (.inr (.inr (.inr (fun j => if j < n then some (h0 + 1 + j) else none))))) ∨ 0 < j ∧ j < n + 1 ∧ x.2 = .inl (cE, 0, .inr (.inr (.inr (.inr (fun _ => none)))))) := by
  cases j with
  | zero => cases h; exact ⟨rfl, Or.inl ⟨rfl, rfl⟩⟩
  | succ j =>
    have h2 : ((List.range n).map (fun j => ((h0 + 1 + j, .inl (cE, 0, .inr (.inr (.inr (.inr (fun _ => none)))))) : Nat × va_E)))[j]? = some x := h
    rw [List.getElem?_map] at h2
    obtain ⟨i, hi, rfl⟩ := Option.map_eq_some_iff.mp h2
    obtain ⟨hj, hi2⟩ := List.getElem?_eq_some_iff.mp hi
    rw [List.length_range] at hj
    rw [List.getElem_range] at hi2
    subst hi2
    exact ⟨by show h0 + 1 + j = h0 + (j + 1); omega, Or.inr ⟨by omega, by omega, rfl⟩⟩
theorem P_mw_len {cA cE : ClassId} {n h0 : Nat} : (P_mw cA cE n h0).length = n + 1 := by
  simp [P_mw]
theorem P_mw_fst {cA cE : ClassId} {n h0 j : Nat} (hj : j < n + 1) : ((P_mw cA cE n h0).map Prod.fst)[j]? = some (h0 + j) := by
  have hl : j < (P_mw cA cE n h0).length := by rw [P_mw_len]; exact hj
  rw [List.getElem?_map, List.getElem?_eq_getElem hl]
  have := (P_mw_at (List.getElem?_eq_getElem hl)).1
  simp [this]
theorem P_mh_at {n h0 j : Nat} {x : P_E} (hx : ((.inl (201, n, .inr (.inr (.inr (.inr (fun j => if j < n then some (h0 + 1 + j) else none))))) :: List.replicate n (.inl (200, 0, .inr (.inr (.inr (.inr (fun _ => none))))))) : List P_E)[j]? = some x) : j = 0 ∧ x = .inl (201, n, .inr (.inr (.inr (.inr (fun j => if j < n then some (h0 + 1 + j) else none))))) ∨ 0 < j ∧ x = .inl (200, 0, .inr (.inr (.inr (.inr (fun _ => none))))) := by
  cases j with
  | zero => cases hx; exact Or.inl ⟨rfl, rfl⟩
  | succ j =>
    rw [List.getElem?_cons_succ, List.getElem?_replicate] at hx
    split at hx
    · cases hx; exact Or.inr ⟨by omega, rfl⟩
    · cases hx
set_option maxHeartbeats 4000000 in
theorem P_Wd.mna (hW : P_Wd cl aty nro stat D A s H locs ro ws tys h.1) (hat : P_atok cl aty) {n : Nat} {cA cE : ClassId} {H1 : Heap} (b1 : ArrOfT s cA (.array (.array .int))) (b2 : va_RA s cA (.array (.array .int))) (b3 : ArrOfT s cE (.array .int)) (b4 : va_RA s cE (.array .int)) (z1 : H1.size = H.size + 1 + n) (z2 : H1[H.size]? = some (P_mo cA n H.size n)) (z3 : ∀ j, j < n → H1[H.size + 1 + j]? = some (P_mi cE)) (z4 : ∀ a, a < H.size → H1[a]? = H[a]?) :
    P_Wd cl aty nro stat D A s H1 locs ro (ws ++ P_mw cA cE n H.size) (tys ++ [(cA, .array (.array .int)), (cE, .array .int)]) (P_mna h n).1 ∧ P_sub (P_rho ro ws) (P_rho ro (ws ++ P_mw cA cE n H.size)) ∧ P_v (P_rho ro (ws ++ P_mw cA cE n H.size)) (.ref h.1.length) (.ref H.size) := by
  obtain ⟨g1, g2, g3, g4, g5, g6, g7, g8, g9, g10⟩ := hW
  obtain ⟨-, -, -, -, -, -, a5, a6⟩ := hat
  have hrho : ∀ j, j < n + 1 → (P_rho ro (ws ++ P_mw cA cE n H.size))[h.1.length + j]? = some (H.size + j) := by
    intro j hj
    rw [P_rho, List.map_append, ← List.append_assoc, List.getElem?_append_right (by simp; omega)]
    rw [show h.1.length + j - (ro ++ ws.map Prod.fst).length = j by simp; omega]
    exact P_mw_fst hj
  have hsub : P_sub (P_rho ro ws) (P_rho ro (ws ++ P_mw cA cE n H.size)) := by
    intro i q hq
    rw [P_rho, List.map_append, ← List.append_assoc, List.getElem?_append_left (List.getElem?_eq_some_iff.mp hq).1]
    exact hq
  have split : ∀ (k : Nat) (x : Nat × va_E), (ws ++ P_mw cA cE n H.size)[k]? = some x → ws[k]? = some x ∨ ∃ j, k = ws.length + j ∧ (P_mw cA cE n H.size)[j]? = some x := by
    intro k x hk
    rcases Nat.lt_or_ge k ws.length with q | q
    · rw [List.getElem?_append_left q] at hk
      exact Or.inl hk
    · rw [List.getElem?_append_right q] at hk
      exact Or.inr ⟨k - ws.length, by omega, hk⟩
  refine ⟨⟨fun k x hk => ?_, ⟨g2.1, fun k x hk => ?_⟩, ⟨fun i j x y hi hj hxy => ?_, fun k x hk => ?_⟩, ⟨Nat.le_trans g4.1 (by omega), fun q q1 q2 => (z4 q (Nat.lt_of_lt_of_le q1 g4.1)).trans (g4.2.1 q q1 q2), g4.2.2⟩, g5, g6, ?_, fun i q hq => ?_, fun i c' q' e' hc' he' => ?_, g10⟩, hsub, ⟨H.size, hrho 0 (by omega), rfl⟩⟩
  · rcases split k x hk with q | ⟨j, rfl, q⟩
    · exact (g1 k x q).kept (z4 _ (g1 k x q).lt)
    · obtain ⟨w1, w2⟩ := P_mw_at q
      obtain ⟨a, ee⟩ := x
      simp only at w1 w2
      rcases w2 with ⟨rfl, rfl⟩ | ⟨w3, w4, rfl⟩
      · subst w1
        show H1[H.size + 0]? = some (vp_cell cA _)
        rw [Nat.add_zero, z2, vp_cell_q]
        unfold P_mo
        congr 2
        funext j
        split <;> rfl
      · subst w1
        show H1[H.size + j]? = some (vp_cell cE _)
        rw [show H.size + j = H.size + 1 + (j - 1) by omega, z3 _ (by omega), vp_cell_q, P_mi, arrV_new]
        rfl
  · rcases Nat.lt_or_ge k tys.length with q | q
    · rw [List.getElem?_append_left q] at hk
      exact g2.2 k x hk
    · rw [List.getElem?_append_right q] at hk
      have hz : k - tys.length < 2 := (List.getElem?_eq_some_iff.mp hk).1
      rcases (by omega : k - tys.length = 0 ∨ k - tys.length = 1) with e0 | e0 <;> rw [e0] at hk <;> cases hk
      · exact ⟨b1, b2⟩
      · exact ⟨b3, b4⟩
  · rcases split i x hi with q | ⟨a, rfl, q⟩ <;> rcases split j y hj with r | ⟨b, rfl, r⟩
    · exact g3.1 i j x y q r hxy
    · have := (g1 i x q).lt
      have := (P_mw_at r).1
      omega
    · have := (g1 j y r).lt
      have := (P_mw_at q).1
      omega
    · have := (P_mw_at q).1
      have := (P_mw_at r).1
      omega
  · rcases split k x hk with q | ⟨j, rfl, q⟩
    · exact g3.2 k x q
    · have := (P_mw_at q).1
      exact g5 _ (by have := g4.1; omega)
  · simp [P_mna, P_mw_len]; omega
  · obtain ⟨nn, f, c1, c2⟩ := g8 i q hq
    have hlt : i < nro := by rw [← g6]; exact (List.getElem?_eq_some_iff.mp hq).1
    exact ⟨nn, f, by unfold P_mna; rw [List.getElem?_append_left (by omega)]; exact c1, c2⟩
  · unfold P_mna at hc'
    rcases split i _ he' with q | ⟨j, rfl, q⟩
    · have hlt : i < ws.length := (List.getElem?_eq_some_iff.mp q).1
      rw [List.getElem?_append_left (by omega)] at hc'
      exact (g9 i c' q' e' hc' q).mono hsub (fun k x hk => by rw [List.getElem?_append_left (List.getElem?_eq_some_iff.mp hk).1]; exact hk)
    · rw [List.getElem?_append_right (by omega), show nro + (ws.length + j) - h.1.length = j by omega] at hc'
      obtain ⟨w1, w2⟩ := P_mw_at q
      simp only at w1 w2
      rcases w2 with ⟨rfl, rfl⟩ | ⟨w3, w4, rfl⟩
      · rcases P_mh_at hc' with ⟨-, rfl⟩ | ⟨q0, -⟩
        · refine ⟨cA, tys.length, _, by rw [a6]; simp, rfl, _, rfl, fun jj => ?_⟩
          by_cases hjj : jj < n
          · refine Or.inr ⟨h.1.length + 1 + jj, H.size + 1 + jj, if_pos hjj, if_pos hjj, ?_⟩
            have := hrho (1 + jj) (by omega)
            rw [← Nat.add_assoc, ← Nat.add_assoc] at this
            exact this
          · exact Or.inl ⟨if_neg hjj, if_neg hjj⟩
        · omega
      · rcases P_mh_at hc' with ⟨q0, -⟩ | ⟨-, rfl⟩
        · omega
        · exact ⟨cE, tys.length + 1, _, by rw [a5]; simp, rfl, _, rfl, fun jj => Or.inl ⟨rfl, rfl⟩⟩
set_option maxHeartbeats 4000000 in
theorem P_mna_ok (hC : P_Cx Tb own ini cc nL p s m args meth c) (hW : P_Wd cl aty nro stat D A s H locs ro ws tys h.1) (hat : P_atok cl aty) {idx dd : Nat} (hok : P_iok cl aty Z Tb stat own ini (.multianewarray idx dd) r1 r2) (hdg : decode cc pc = .ok (.multianewarray idx dd, 4)) (hst : P_vs (P_rho ro ws) st st') (hh : P_hp Z nro (.multianewarray idx dd) r1 r2 st h = some (st1, h1)) (hrc : cells + h1.2.1 ≤ R.cells + h.2.1) (hrs : slots + h1.2.2 ≤ R.slots + h.2.2)
    (k : ∀ (H1 : Heap) (ws1 : va_W) (tys1 : List (ClassId × FieldType)) (ws' : List Value) (cells1 slots1 : Nat), P_sub (P_rho ro ws) (P_rho ro ws1) → P_Wd cl aty nro stat D A s H1 locs ro ws1 tys1 h1.1 → cells1 + h.2.1 = cells + h1.2.1 → slots1 + h.2.2 = slots + h1.2.2 → P_vs (P_rho ro ws1) st1 ws' → W p l e R s m args below meth c H1 locs cells1 slots1 Q (F0 m (pc + 4) ls ws')) : W p l e R s m args below meth c H locs cells slots Q (F0 m pc ls st') := by
  obtain ⟨hx, hb, -, hown, hts, -, -⟩ := hC
  simp only [P_hp] at hh
  split at hh
  · next hr =>
    obtain ⟨rfl, o1, o2, o3⟩ := hok hr
    split at hh
    · next kk n r =>
      split at hh
      · next hcond =>
        obtain ⟨rfl, hn⟩ := hcond
        cases hh
        obtain ⟨w0, ws0, rfl, e0, hs0⟩ := P_vs_cons hst
        obtain ⟨w1, ws1, rfl, e1, hs1⟩ := P_vs_cons hs0
        cases e0; cases e1
        have hn0 : ¬ n < 0 := fun q => hn (Or.inl q)
        have hn1 : n.toNatClampNeg ≤ 65536 := Nat.le_of_not_lt fun q => hn (Or.inr q)
        simp only [P_mna] at hrc hrs
        refine P_Wmna (t := .array .int) (u := .int) hx hb rfl hown (hts _ o1) (hts _ o2) (hts _ o3) (g := F0 m pc ls (.int 0 :: .int n :: ws1)) rfl hdg rfl hn0 (by omega) (by omega) (by omega) (fun cA cE H1 b1 b2 b3 b4 z1 z2 z3 z4 => ?_)
        obtain ⟨q1, q2, q3⟩ := hW.mna hat b1 b2 b3 b4 z1 z2 z3 z4
        exact k H1 _ _ _ _ _ q2 q1 (by simp only [P_mna]; omega) (by simp only [P_mna]; omega) ⟨q3, hs1.mono q2⟩
      · cases hh
    · cases hh
  · cases hh
end MN
