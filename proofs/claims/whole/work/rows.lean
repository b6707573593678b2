section
/-! ===== BEGIN words of one list among another's, by their places ===== -/
theorem goodIn_r {big : List Cond} (ws : List Cond) (ps : List Nat) (hp : ws = ps.filterMap (fun i => big[i]?)) (h : ws.all goodWord = true) : GoodIn big ws := by
  intro w hw
  have h1 := List.all_eq_true.mp h w hw
  rw [hp] at hw
  obtain ⟨i, -, hi⟩ := List.mem_filterMap.mp hw
  have hm : w ∈ big := by first | exact List.mem_of_getElem? hi | exact List.getElem?_mem hi
  exact ⟨hm, good_of_word h1⟩
theorem goodIn_app {big a b : List Cond} (ha : GoodIn big a) (hb : GoodIn big b) : GoodIn big (a ++ b) := fun w h => (List.mem_append.mp h).elim (ha w) (hb w)
theorem goodIn_ca {big a b : List Cond} {c : Cond} (ha : GoodIn big (c :: a)) (hb : GoodIn big b) : GoodIn big (c :: (a ++ b)) := fun w h => (List.mem_cons.mp h).elim (fun e => ha w (List.mem_cons.mpr (Or.inl e))) (fun h => (List.mem_append.mp h).elim (fun h => ha w (List.mem_cons.mpr (Or.inr h))) (hb w))
theorem goodIn_sub {big ws : List Cond} (hm : ∀ w ∈ ws, w ∈ big) (h : ws.all goodWord = true) : GoodIn big ws := fun w hw => ⟨hm w hw, good_of_word (List.all_eq_true.mp h w hw)⟩
/-! ===== END ===== -/
/-! ===== BEGIN exceptions that leave a method, and their catching by the caller (launches without stack traces) ===== -/
section VXA
/-! The laws vx_back, vx_callV, vx_callS, vx_callSW, vx_throw0, vx_throwS follow proofs of the library, with one case more: JvmDerived/Free/Laws.lean (Back.of_free), Shelf42/LK1.lean (callV, callS), Shelf/KitTraced.lean (throwNew0V, throwNewS). -/
/-- where a method has thrown q: the class by its name, the cell, what was written, the world -/
def vx_T (XC : String → State → State → Prop) (st : State) (q : Addr) (t : State) (mc ms : Nat) (free : Addr → Prop) : Prop :=
  ∃ (E : String) (ce : Cell) (L : List Loc), XC E st t ∧ t.heap[q]? = some ce ∧ ce.vm = .none ∧ st.vm.findClass E = some ce.cls ∧ st.WarmedH t.vm ∧ st.sameButNew ({ t with vm := st.vm } : State) L mc ms ∧ ∀ z ∈ L, free z.base
def vx_Q (Qc : Array Value → State → Outcome → State → Prop) (XC : String → State → State → Prop) (mc ms : Nat) (free : Addr → Prop) : Array Value → State → Outcome → State → Prop := fun a st o t =>
  (Qc a st o t ∧ ∃ L, FrameEnd st o t L mc ms ∧ ∀ q ∈ L, free q.base) ∨ ∃ q, o = .threw q ∧ vx_T XC st q t mc ms free
/-- a callee that returns or throws -/
def vx_Met (l : Launch) (y : MethodName) (ws : List Cond) (rm : Room) (Pc : Array Value → State → Prop) (Qc : Array Value → State → Outcome → State → Prop) (XC : String → State → State → Prop) (mc ms : Nat) (free : Addr → Prop) : Prop :=
  MetFree l y (headSpec ws rm) Pc (fun _ _ _ _ _ => True) (vx_Q Qc XC mc ms free)
def vx_Post (XC : String → State → State → Prop) (mc ms : Nat) (free : Addr → Prop) : Pt → Array Value → Addr → Pt → Prop := fun A a q B =>
  ∃ (g : JFrame) (mk : MethodId) (t : State) (L : List Loc) (E : String) (ce : Cell), B.U.heap = t.heap ∧ B.U.vm = t.vm ∧ XC E (A.U.calling g mk a) t ∧ t.heap[q]? = some ce ∧ ce.vm = .none ∧ A.U.vm.findClass E = some ce.cls ∧ B.locs = A.locs ++ L ∧ (∀ z ∈ L, free z.base) ∧ B.cells = A.cells + mc ∧ B.slots = A.slots + ms
def vx_Back (l : Launch) (R : Room) (p : Program) (e : Env) (below : List Frame) (s : State) (sargs : Array Value) (y : MethodName) (len W9 : Nat)
    (Pre : Pt → Array Value → Prop) (Post : Pt → Array Value → Option Value → Pt → Prop) (PostX : Pt → Array Value → Addr → Pt → Prop) : Prop :=
  ∀ (m : MethodId) (meth : Method) (c : Code) (A : Pt) (g : JFrame) (ig : Instr) (mk : MethodId) (a : Array Value),
    Stand p l e R s m sargs below meth c A.U A.locs A.cells A.slots → g.method = m → g.locals.size = c.maxLocals → decode c.code g.pc = .ok (ig, len) →
    2 * g.monitorRoom + (g.stack.map fun v => v.category).sum ≤ W9 → A.U.methodNamed? y = some mk → Pre A a →
    (∃ (v : Option Value) (B : Pt), Stand p l e R s m sargs below meth c B.U B.locs B.cells B.slots ∧ Post A a v B ∧
      Steps p.tables e below (doInvoke e (A.U.setTop g) [] mk a).1 (B.U.setTop { g with pc := g.pc + len, stack := v.toList ++ g.stack })) ∨
    (∃ (q : Addr) (B : Pt), Stand p l e R s m sargs below meth c B.U B.locs B.cells B.slots ∧ PostX A a q B ∧
      Steps p.tables e below (doInvoke e (A.U.setTop g) [] mk a).1 ((B.U.setTop g).pushFrame (.throwing q)))
section Payer
variable {l : Launch} {R : Room} {p : Program} {e : Env} {below : List Frame} {s : State} {sargs : Array Value} {y : MethodName} {len W9 : Nat}
theorem vx_back {ws : List Cond} {rm : Room} {Pc : Array Value → State → Prop} {Qc : Array Value → State → Outcome → State → Prop} {XC : String → State → State → Prop} {mc ms : Nat} {free : Addr → Prop} {bytes : ByteArray} {maxL : Nat} {ret : Option FieldType}
    (hM : vx_Met l y ws rm Pc Qc XC mc ms free) (hblind : FrameBlind Pc) (hrc : rm.cells = mc) (hrs : rm.slots = ms)
    (hframes : rm.frames + 1 ≤ R.frames) (hlocals : W9 + (maxL + 11) + rm.locals ≤ R.locals)
    (hws : ∀ w ∈ ws, ∀ a' U, s.WarmedH U.vm → w.before a' U = true) (hcode : Cond.code y bytes maxL ret ∈ ws) (hinit : ∀ a' U, s.WarmedH U.vm → (Cond.initialized y.cls).before a' U = true) :
    vx_Back l R p e below s sargs y len W9 (PreOf R mc ms Pc) (PostOf Qc mc ms free) (vx_Post XC mc ms free) := by
  intro m meth c A g ig mk a X hg hsize hdg hW hn hp
  have h1 : (headSpec ws rm).pre.before a A.U = true := atoms_intro fun w hw => hws w hw _ _ X.warmed
  have h2 : (Cond.code y bytes maxL ret).before a A.U = true := hws _ hcode _ _ X.warmed
  have h3 : (Cond.initialized y.cls).before a A.U = true := hinit _ _ X.warmed
  have h4 : A.cells + (headSpec ws rm).room.cells ≤ R.cells := by rw [show (headSpec ws rm).room.cells = mc from hrc]; exact hp.1
  have h5 : A.slots + (headSpec ws rm).room.slots ≤ R.slots := by rw [show (headSpec ws rm).room.slots = ms from hrs]; exact hp.2.1
  have hPc : Pc a (A.U.calling g mk a) := hblind _ _ _ _ hp.2.2
  obtain ⟨U, Ls, c0, s0⟩ := A
  dsimp only [Pt.U, Pt.locs, Pt.cells, Pt.slots] at h1 h2 h3 h4 h5 X hn hPc ⊢
  obtain ⟨methY, cY, hmY, hcY, -, hlY, -, -, -, -⟩ := Cond.code_spec hn h2
  obtain ⟨kY, hkY, -⟩ := className_of_methodNamed hn
  have hinitY : kY.init = .initialized := Cond.initialized_spec (findClass_of_methodNamed hn) hkY h3
  have h : At U g.method c below := by rw [hg]; exact X.here
  have hlocals9 : W9 + (maxL + 11) + (headSpec ws rm).room.locals ≤ R.locals := hlocals
  have happ : (headSpec ws rm).appliesLoose y e.platform (U.calling g mk a) = true :=
    Spec.appliesLoose_calling (g := g) h hdg hn hkY hinitY
      (X.room_calling (g := g) (R' := (headSpec ws rm).room) hsize hmY hcY hframes (by rw [hlY]; omega) h4 h5) h1
  obtain ⟨mid, hmid⟩ := h.above
  have hfr : (U.setTop g).frames = (.java g :: mid) ++ below := by rw [State.frames_setTop' g h.top, hmid]; rfl
  obtain ⟨o, s₂, hsteps, -, hend, hq⟩ := Steps.callFree hM p X.admits X.cas X.clock (acts := []) hfr happ hPc trivial
  have hq' : vx_Q Qc XC mc ms free a (U.calling g mk a) o s₂ := hq
  rw [State.frames_setTop' g h.top] at hend
  obtain ⟨g₀, hg0⟩ := Option.isSome_iff_exists.mp h.top
  obtain ⟨r, hr⟩ := State.topJava?_eq_some.mp hg0
  have hr' : (({ U with heap := s₂.heap, slotsUsed := s₂.slotsUsed } : State).setVm s₂.vm).frames = .java g₀ :: r := hr
  rcases hq' with ⟨hqc, L, hfe, hL⟩ | ⟨q, rfl, E, ce, L, hx, hce, hcv, hcl, hW₂, hsm, hL⟩
  · obtain ⟨⟨v, rfl⟩, hW₂, e2, q2, q3, q4, q5, q6⟩ := id hfe
    have e3 : s₂ = ({ (U.calling g mk a).setFrames s₂.frames with heap := s₂.heap, slotsUsed := s₂.slotsUsed } : State).setVm s₂.vm := by
      have : s₂ = ({ s₂ with vm := (U.calling g mk a).vm } : State).setVm s₂.vm := rfl
      rw [e2] at this
      exact this
    obtain ⟨c₂, i₂, len₂, hc₂, hd₂, hf₂⟩ := hend
    have hW' : U.WarmedH s₂.vm := hW₂
    have hcc : c₂ = c := by
      have h1 : s₂.code? g.method = U.code? g.method := by
        rw [State.code?_eq, State.code?_eq, hW'.alike.method?]
      exact Option.some.inj (hc₂.symm.trans (h1.trans h.code))
    subst hcc
    have hlen : len₂ = len := by rw [hdg] at hd₂; cases hd₂; rfl
    subst hlen
    have hs₂ : s₂ = (({ U with heap := s₂.heap, slotsUsed := s₂.slotsUsed } : State).setVm s₂.vm).setTop { g with pc := g.pc + len₂, stack := v.toList ++ g.stack } := by
      refine e3.trans ?_
      rw [hf₂, State.calling_eq h.top, State.setFrames_setFrames, State.setTop_of_frames _ hr', hr]
      rfl
    have hsame : U.sameButNew ({ U with heap := s₂.heap, slotsUsed := s₂.slotsUsed } : State) L mc ms := by
      refine ⟨?_, q2, q3, q4, q5, q6⟩
      obtain ⟨t, ht, -⟩ := State.frames_cons hr
      show ({ U with heap := s₂.heap, slotsUsed := s₂.slotsUsed } : State) = { U.setFrames U.frames with heap := s₂.heap, slotsUsed := s₂.slotsUsed }
      rw [State.setFrames_self ht]
    subst hg
    refine Or.inl ⟨v, ⟨(({ U with heap := s₂.heap, slotsUsed := s₂.slotsUsed } : State).setVm s₂.vm), Ls ++ L, c0 + mc, s0 + ms⟩,
      ⟨X.admits, X.cas, X.clock, X.frames, X.room, X.hears, X.method, X.code, (X.here.setHeapUsed s₂.heap s₂.slotsUsed).setVm hW'.alike, X.tail, State.WarmedH.trans X.warmed hW', X.limits, X.bytes, X.same.trans (hsame.setVm s.vm)⟩,
      ⟨g, mk, s₂, L, rfl, rfl, hqc, rfl, hL, rfl, rfl⟩, ?_⟩
    show Steps p.tables e below _ ((({ U with heap := s₂.heap, slotsUsed := s₂.slotsUsed } : State).setVm s₂.vm).setTop { g with pc := g.pc + len₂, stack := v.toList ++ g.stack })
    rw [← hs₂]
    exact hsteps
  · obtain ⟨e2, q2, q3, q4, q5, q6⟩ := id hsm
    have e3 : s₂ = ({ (U.calling g mk a).setFrames s₂.frames with heap := s₂.heap, slotsUsed := s₂.slotsUsed } : State).setVm s₂.vm := by
      have : s₂ = ({ s₂ with vm := (U.calling g mk a).vm } : State).setVm s₂.vm := rfl
      rw [e2] at this
      exact this
    have hf₂ : s₂.frames = .throwing q :: .java g :: U.frames.tail := hend
    have hW' : U.WarmedH s₂.vm := hW₂
    have hs₂ : s₂ = ((({ U with heap := s₂.heap, slotsUsed := s₂.slotsUsed } : State).setVm s₂.vm).setTop g).pushFrame (.throwing q) := by
      refine e3.trans ?_
      rw [hf₂, State.calling_eq h.top, State.setFrames_setFrames, State.pushFrame, State.frames_setTop _ hr', State.setTop_of_frames _ hr', State.setFrames_setFrames, hr]
      rfl
    have hsame : U.sameButNew ({ U with heap := s₂.heap, slotsUsed := s₂.slotsUsed } : State) L mc ms := by
      refine ⟨?_, q2, q3, q4, q5, q6⟩
      obtain ⟨t, ht, -⟩ := State.frames_cons hr
      show ({ U with heap := s₂.heap, slotsUsed := s₂.slotsUsed } : State) = { U.setFrames U.frames with heap := s₂.heap, slotsUsed := s₂.slotsUsed }
      rw [State.setFrames_self ht]
    subst hg
    refine Or.inr ⟨q, ⟨(({ U with heap := s₂.heap, slotsUsed := s₂.slotsUsed } : State).setVm s₂.vm), Ls ++ L, c0 + mc, s0 + ms⟩,
      ⟨X.admits, X.cas, X.clock, X.frames, X.room, X.hears, X.method, X.code, (X.here.setHeapUsed s₂.heap s₂.slotsUsed).setVm hW'.alike, X.tail, State.WarmedH.trans X.warmed hW', X.limits, X.bytes, X.same.trans (hsame.setVm s.vm)⟩,
      ⟨g, mk, s₂, L, E, ce, rfl, rfl, hx, hce, hcv, hcl, rfl, hL, rfl, rfl⟩, ?_⟩
    show Steps p.tables e below _ (((({ U with heap := s₂.heap, slotsUsed := s₂.slotsUsed } : State).setVm s₂.vm).setTop g).pushFrame (.throwing q))
    rw [← hs₂]
    exact hsteps
end Payer
section Calls
variable {p : Program} {l : Launch} {e : Env} {R : Room} {s : State} {m : MethodId} {args : Array Value} {below : List Frame} {meth : Method} {c : Code} {T : State} {locs : List Loc} {cells slots : Nat}
theorem vx_callV (X : Stand p l e R s m args below meth c T locs cells slots) (hexec : p.tables.exec = Jvm.exec) {own C : String} {index : Nat} {y : MethodName} {bytes : ByteArray} {maxL : Nat} {ret : Option FieldType}
    (hown : s.vm.findClass own = some m.cls) (hlink : (Cond.methodLink own index y).before args s = true) (hinst : (Cond.instanceMethod y).before args s = true) (hsel : (Cond.selects C y y).before args s = true)
    (hcode : (Cond.code y bytes maxL ret).before args s = true) (hy : y.cls ≠ "java/lang/invoke/MethodHandle" ∧ y.cls ≠ "java/lang/invoke/VarHandle")
    {W9 : Nat} {Pre : Pt → Array Value → Prop} {Post : Pt → Array Value → Option Value → Pt → Prop} {PostX : Pt → Array Value → Addr → Pt → Prop} (hK : vx_Back l R p e below s args y 3 W9 Pre Post PostX)
    {b : Addr} {cellB : Cell} (hcell : T.heap[b]? = some cellB) (hobj : cellB.vm.isStatics = false) (hcls : s.vm.findClass C = some cellB.cls)
    {g : JFrame} (hg : g.method = m) (hsize : g.locals.size = c.maxLocals) {argsL rest : List Value} (hlen : ∀ sig, parseMethodDescriptor y.desc = some sig → argsL.length = sig.parameters.length)
    (hstack : g.stack = argsL.reverse ++ .ref b :: rest) (hW : 2 * g.monitorRoom + (rest.map fun v => v.category).sum ≤ W9) (hdg : decode c.code g.pc = .ok (.invokevirtual index, 3))
    (hpre : ∀ vm₁, s.WarmedH vm₁ → Pre ⟨T.setVm vm₁, locs, cells, slots⟩ (Value.ref b :: argsL).toArray) :
    (∃ (v : Option Value) (vm₁ : Vm) (B : Pt), s.WarmedH vm₁ ∧ Stand p l e R s m args below meth c B.U B.locs B.cells B.slots ∧ Post ⟨T.setVm vm₁, locs, cells, slots⟩ (Value.ref b :: argsL).toArray v B ∧
      ∀ target, Steps p.tables e below (B.U.setTop { g with pc := g.pc + 3, stack := v.toList ++ rest }) target → Steps p.tables e below (T.setTop g) target) ∨
    (∃ (q : Addr) (vm₁ : Vm) (B : Pt), s.WarmedH vm₁ ∧ Stand p l e R s m args below meth c B.U B.locs B.cells B.slots ∧ PostX ⟨T.setVm vm₁, locs, cells, slots⟩ (Value.ref b :: argsL).toArray q B ∧
      Steps p.tables e below (T.setTop g) ((B.U.setTop { g with stack := rest }).pushFrame (.throwing q))) := by
  obtain ⟨mk, methM, hnamed, hmethM, hstM, habM⟩ := Cond.instanceMethod_spec hinst
  obtain ⟨methM', cM, hmethM', -, -, -, -, -, -, hsigM⟩ := Cond.code_spec hnamed hcode
  cases hmethM.symm.trans hmethM'
  obtain ⟨c2, r2, m2, q1, q2, q3, q4, kP, hkP, hkPi⟩ := Cond.selects_spec hsel
  cases hcls.symm.trans q1
  cases (State.methodFound?_of_named hnamed hy).symm.trans q2
  cases hnamed.symm.trans q3
  have hselP : selectMethod e.platform s.vm cellB.cls mk = .method mk := by rw [Launch.admits_selectMethod X.admits]; exact q4
  obtain ⟨vm₁, X₁, hstep₁⟩ := X.invokevirtual hexec hown hlink hnamed hmethM hstM hkP hkPi hy (a := b) (cell := cellB) hcell
    (fun z h => by rw [h] at hobj; cases hobj) hselP hmethM habM hkP hkPi (g := g) hg (argsL := argsL) (rest := rest) (hlen _ hsigM) hstack hdg
  rcases hK m meth c ⟨T.setVm vm₁, locs, cells, slots⟩ { g with stack := rest } (.invokevirtual index) mk (Value.ref b :: argsL).toArray X₁ hg hsize hdg hW (X₁.named hnamed) (hpre vm₁ X₁.warmed) with ⟨v, B, X', hpost, hsteps⟩ | ⟨q, B, X', hpost, hsteps⟩
  · exact Or.inl ⟨v, vm₁, B, X₁.warmed, X', hpost, fun target h => hstep₁ _ fun acts => by rw [doInvoke_state]; exact hsteps.trans h⟩
  · exact Or.inr ⟨q, vm₁, B, X₁.warmed, X', hpost, hstep₁ _ fun acts => by rw [doInvoke_state]; exact hsteps⟩
theorem vx_callS (X : Stand p l e R s m args below meth c T locs cells slots) (hexec : p.tables.exec = Jvm.exec) {own : String} {index : Nat} {y : MethodName} {bytes : ByteArray} {maxL : Nat} {ret : Option FieldType}
    (hown : s.vm.findClass own = some m.cls) (hlink : (Cond.methodLink own index y).before args s = true) (hstat : (Cond.static y).before args s = true) (hinit : (Cond.initialized y.cls).before args s = true)
    (hcode : (Cond.code y bytes maxL ret).before args s = true) (hy : y.cls ≠ "java/lang/invoke/MethodHandle" ∧ y.cls ≠ "java/lang/invoke/VarHandle")
    {W9 : Nat} {Pre : Pt → Array Value → Prop} {Post : Pt → Array Value → Option Value → Pt → Prop} {PostX : Pt → Array Value → Addr → Pt → Prop} (hK : vx_Back l R p e below s args y 3 W9 Pre Post PostX)
    {g : JFrame} (hg : g.method = m) (hsize : g.locals.size = c.maxLocals) {argsL rest : List Value} (hlen : ∀ sig, parseMethodDescriptor y.desc = some sig → argsL.length = sig.parameters.length)
    (hstack : g.stack = argsL.reverse ++ rest) (hW : 2 * g.monitorRoom + (rest.map fun v => v.category).sum ≤ W9) (hdg : decode c.code g.pc = .ok (.invokestatic index, 3))
    (hpre : ∀ vm₁, s.WarmedH vm₁ → Pre ⟨T.setVm vm₁, locs, cells, slots⟩ argsL.toArray) :
    (∃ (v : Option Value) (vm₁ : Vm) (B : Pt), s.WarmedH vm₁ ∧ Stand p l e R s m args below meth c B.U B.locs B.cells B.slots ∧ Post ⟨T.setVm vm₁, locs, cells, slots⟩ argsL.toArray v B ∧
      ∀ target, Steps p.tables e below (B.U.setTop { g with pc := g.pc + 3, stack := v.toList ++ rest }) target → Steps p.tables e below (T.setTop g) target) ∨
    (∃ (q : Addr) (vm₁ : Vm) (B : Pt), s.WarmedH vm₁ ∧ Stand p l e R s m args below meth c B.U B.locs B.cells B.slots ∧ PostX ⟨T.setVm vm₁, locs, cells, slots⟩ argsL.toArray q B ∧
      Steps p.tables e below (T.setTop g) ((B.U.setTop { g with stack := rest }).pushFrame (.throwing q))) := by
  obtain ⟨mk, hnamed⟩ := Cond.code_named hcode
  obtain ⟨methM, cM, hmethM, -, -, -, -, -, -, hsigM⟩ := Cond.code_spec hnamed hcode
  have hstatic : methM.isStatic = true := Cond.static_spec hnamed hmethM hstat
  obtain ⟨kP, hkP, -⟩ := className_of_methodNamed hnamed
  have hinitP : kP.init = .initialized := Cond.initialized_spec (findClass_of_methodNamed hnamed) hkP hinit
  obtain ⟨vm₁, X₁, hstep₁⟩ := X.invokestatic hexec hown hlink hnamed hmethM hstatic hkP hinitP hy (g := g) hg (argsL := argsL) (rest := rest) (hlen _ hsigM) hstack hdg
  rcases hK m meth c ⟨T.setVm vm₁, locs, cells, slots⟩ { g with stack := rest } (.invokestatic index) mk argsL.toArray X₁ hg hsize hdg hW (X₁.named hnamed) (hpre vm₁ X₁.warmed) with ⟨v, B, X', hpost, hsteps⟩ | ⟨q, B, X', hpost, hsteps⟩
  · exact Or.inl ⟨v, vm₁, B, X₁.warmed, X', hpost, fun target h => hstep₁ _ fun acts => by rw [doInvoke_state]; exact hsteps.trans h⟩
  · exact Or.inr ⟨q, vm₁, B, X₁.warmed, X', hpost, hstep₁ _ fun acts => by rw [doInvoke_state]; exact hsteps⟩
end Calls
theorem vx_cls {s : State} {T : State} {vm₁ : Vm} {E : String} {k : ClassId} (hW : s.WarmedH vm₁) (h : (T.setVm vm₁).vm.findClass E = some k) : s.vm.findClass E = some k := by
  have h1 : vm₁.findClass E = some k := h
  rw [hW.alike.findClass] at h1
  exact h1
/-- the method's frame g, with q thrown over it -/
def vx_W (p : Program) (l : Launch) (e : Env) (R : Room) (s : State) (m : MethodId) (args : Array Value) (below : List Frame) (meth : Method) (c : Code) (H : Heap) (locs : List Loc) (cells slots : Nat) (Q : State → Prop) (g : JFrame) (q : Addr) : Prop :=
  ∀ T : State, T.heap = H → Stand p l e R s m args below meth c T locs cells slots → ∃ t, Steps p.tables e below ((T.setTop g).pushFrame (.throwing q)) t ∧ Q t
def vx_Run (p : Program) (l : Launch) (e : Env) (R : Room) (s : State) (m : MethodId) (args : Array Value) (below : List Frame) (meth : Method) (c : Code) (H : Heap) (locs : List Loc) (cells slots mc ms : Nat) (g : JFrame) (rest : List Value) (Qa : State → Outcome → State → Prop) (XC : String → State → State → Prop) (free : Addr → Prop) : Prop :=
  ∀ T : State, T.heap = H → Stand p l e R s m args below meth c T locs cells slots →
    (∃ (v : Option Value) (st₀ t T' : State) (L : List Loc), st₀.heap = H ∧ Stand p l e R s m args below meth c T' (locs ++ L) (cells + mc) (slots + ms) ∧ (∀ q ∈ L, free q.base) ∧ T'.heap = t.heap ∧ T'.vm = t.vm ∧ Qa st₀ (.returned v) t ∧
      Goes p e below T g T' { g with pc := g.pc + 3, stack := v.toList ++ rest }) ∨
    (∃ (q : Addr) (st₀ t T' : State) (L : List Loc) (E : String) (ce : Cell), st₀.heap = H ∧ Stand p l e R s m args below meth c T' (locs ++ L) (cells + mc) (slots + ms) ∧ (∀ z ∈ L, free z.base) ∧ T'.heap = t.heap ∧ T'.vm = t.vm ∧ XC E st₀ t ∧ t.heap[q]? = some ce ∧ ce.vm = .none ∧ s.vm.findClass E = some ce.cls ∧
      Steps p.tables e below (T.setTop g) ((T'.setTop { g with stack := rest }).pushFrame (.throwing q)))
def vx_X {S : Type} (px : S → Prop) (B : String → S → State → Prop) (A : Nat → Prop) : String → State → State → Prop := fun E st t => ∃ u : S, px u ∧ B E u t ∧ va_F A st t
section Runs
variable {p : Program} {l : Launch} {e : Env} {R : Room} {s : State} {m : MethodId} {args : Array Value} {below : List Frame} {meth : Method} {c : Code} {H : Heap} {locs : List Loc} {cells slots : Nat}
variable {y : MethodName} {bytes cc : ByteArray} {maxL nL mc ms n index : Nat} {ret : Option FieldType} {ws : List Cond} {rm : Room} {Pc : Array Value → State → Prop} {Qc : Array Value → State → Outcome → State → Prop} {XC : String → State → State → Prop} {free : Addr → Prop} {Ts : List Cond} {own C : String} {b : Addr} {As rest : List Value} {g : JFrame}
theorem vx_callBack (cb : CallB R s args own index y bytes maxL ret ws rm mc ms n) (hM : vx_Met l y ws rm Pc Qc XC mc ms free) (hbl : FrameBlind Pc) : vx_Back l R p e below s args y 3 8 (PreOf R mc ms Pc) (PostOf Qc mc ms free) (vx_Post XC mc ms free) := by
  obtain ⟨hrc, hrs, hfr, hlo, hws, hcw, -, hini, -⟩ := cb
  exact vx_back (bytes := bytes) (maxL := maxL) (ret := ret) hM hbl hrc hrs hfr hlo hws hcw (fun a' U hW => word_at hW (Or.inl (by first | rfl | simp [Cond.onTables, Cond.keeps, Cond.steady])) hini)
theorem vx_runV (S : CallFix p m c cc nL s args Ts own) (hM : vx_Met l y ws rm Pc Qc XC mc ms free) (cw : CallW R s args own C index y bytes maxL ret ws rm mc ms n) (hp : PreV s H C b Pc As)
    (hg : g.method = m) (hn : As.length = n) (hsize : g.locals.size = nL) (hstack : g.stack = As.reverse ++ .ref b :: rest) (hW : 2 * g.monitorRoom + (rest.map fun v => v.category).sum ≤ 8) (hdg : decode cc g.pc = .ok (.invokevirtual index, 3)) (hf : cells + mc ≤ R.cells ∧ slots + ms ≤ R.slots) :
    vx_Run p l e R s m args below meth c H locs cells slots mc ms g rest (Qc (Value.ref b :: As).toArray) XC free := by
  have hK : vx_Back l R p e below s args y 3 8 (PreOf R mc ms Pc) (PostOf Qc mc ms free) (vx_Post XC mc ms free) := vx_callBack cw.1 hM hp.1
  obtain ⟨⟨-, -, -, -, -, -, hcode, -, hy, hlen, hl⟩, hin, hse⟩ := cw
  obtain ⟨hx, hb, hml, ho, -⟩ := S
  obtain ⟨-, ⟨cellB, hcB, hoB, hclB⟩, hPc⟩ := hp
  intro T hT X
  rcases vx_callV X hx (C := C) (bytes := bytes) (maxL := maxL) (ret := ret) ho hl hin hse hcode hy hK (by rw [hT]; exact hcB) hoB hclB hg (hsize.trans hml.symm) (argsL := As) (rest := rest) (fun sig h => hn.trans (hlen sig h)) hstack hW (by rw [hb]; exact hdg)
    (fun vm₁ hW₁ => ⟨hf.1, hf.2, hPc (T.setVm vm₁) hT hW₁⟩) with ⟨v, vm₁, ⟨U', l2, c2, s2⟩, hW₁, X', ⟨g', mk, t, L, e1, e2, hq, h1, hL, h2, h3⟩, st⟩ | ⟨q, vm₁, ⟨U', l2, c2, s2⟩, hW₁, X', ⟨g', mk, t, L, E, ce, e1, e2, hq, hce, hcv, hcl, h1, hL, h2, h3⟩, st⟩
  · dsimp only [Pt.U, Pt.locs, Pt.cells, Pt.slots] at X' e1 e2 h1 h2 h3 st
    subst h1; subst h2; subst h3
    exact Or.inl ⟨v, (T.setVm vm₁).calling g' mk (Value.ref b :: As).toArray, t, U', L, hT, X', hL, e1, e2, hq, st⟩
  · dsimp only [Pt.U, Pt.locs, Pt.cells, Pt.slots] at X' e1 e2 h1 h2 h3 st hcl
    subst h1; subst h2; subst h3
    exact Or.inr ⟨q, (T.setVm vm₁).calling g' mk (Value.ref b :: As).toArray, t, U', L, E, ce, hT, X', hL, e1, e2, hq, hce, hcv, vx_cls hW₁ hcl, st⟩
theorem vx_runS (S : CallFix p m c cc nL s args Ts own) (hM : vx_Met l y ws rm Pc Qc XC mc ms free) (cw : CallB R s args own index y bytes maxL ret ws rm mc ms n ∧ (Cond.static y).before args s = true) (hp : PreS s H Pc As)
    (hg : g.method = m) (hn : As.length = n) (hsize : g.locals.size = nL) (hstack : g.stack = As.reverse ++ rest) (hW : 2 * g.monitorRoom + (rest.map fun v => v.category).sum ≤ 8) (hdg : decode cc g.pc = .ok (.invokestatic index, 3)) (hf : cells + mc ≤ R.cells ∧ slots + ms ≤ R.slots) :
    vx_Run p l e R s m args below meth c H locs cells slots mc ms g rest (Qc As.toArray) XC free := by
  have hK : vx_Back l R p e below s args y 3 8 (PreOf R mc ms Pc) (PostOf Qc mc ms free) (vx_Post XC mc ms free) := vx_callBack cw.1 hM hp.1
  obtain ⟨⟨-, -, -, -, -, -, hcode, hini, hy, hlen, hl⟩, hstt⟩ := cw
  obtain ⟨hx, hb, hml, ho, -⟩ := S
  intro T hT X
  rcases vx_callS X hx (bytes := bytes) (maxL := maxL) (ret := ret) ho hl hstt hini hcode hy hK hg (hsize.trans hml.symm) (argsL := As) (rest := rest) (fun sig h => hn.trans (hlen sig h)) hstack hW (by rw [hb]; exact hdg)
    (fun vm₁ hW₁ => ⟨hf.1, hf.2, hp.2 (T.setVm vm₁) hT hW₁⟩) with ⟨v, vm₁, ⟨U', l2, c2, s2⟩, hW₁, X', ⟨g', mk, t, L, e1, e2, hq, h1, hL, h2, h3⟩, st⟩ | ⟨q, vm₁, ⟨U', l2, c2, s2⟩, hW₁, X', ⟨g', mk, t, L, E, ce, e1, e2, hq, hce, hcv, hcl, h1, hL, h2, h3⟩, st⟩
  · dsimp only [Pt.U, Pt.locs, Pt.cells, Pt.slots] at X' e1 e2 h1 h2 h3 st
    subst h1; subst h2; subst h3
    exact Or.inl ⟨v, (T.setVm vm₁).calling g' mk As.toArray, t, U', L, hT, X', hL, e1, e2, hq, st⟩
  · dsimp only [Pt.U, Pt.locs, Pt.cells, Pt.slots] at X' e1 e2 h1 h2 h3 st hcl
    subst h1; subst h2; subst h3
    exact Or.inr ⟨q, (T.setVm vm₁).calling g' mk As.toArray, t, U', L, E, ce, hT, X', hL, e1, e2, hq, hce, hcv, vx_cls hW₁ hcl, st⟩
end Runs
section Rows
variable {p : Program} {l : Launch} {e : Env} {R : Room} {s : State} {m : MethodId} {args : Array Value} {below : List Frame} {meth : Method} {c : Code} {H : Heap} {locs : List Loc} {cells slots : Nat} {Q : State → Prop}
variable {mc ms : Nat} {free : Addr → Prop} {A0 A1 : Nat → Prop} {H0 : Heap} {a : Array Value} {pc : Nat} {ls : Array Slot} {st0 rest : List Value}
theorem vx_keep {st₀ t T' : State} {L : List Loc} (h0 : st₀.heap = H) (e1 : T'.heap = t.heap) (hS : va_S A0 H0 H locs) (hA : ∀ q, q < H.size → A1 q → A0 q) (hf : ∀ q, free q → A0 q) (hL : ∀ q ∈ L, free q.base) (hF : va_F A1 st₀ t) :
    H.size ≤ T'.heap.size ∧ (∀ q : Nat, q < H.size → ¬ A1 q → T'.heap[q]? = H[q]?) ∧ va_S A0 H0 T'.heap (locs ++ L) := by
  obtain ⟨hz, hk⟩ := hF
  rw [h0] at hz hk
  exact ⟨by rw [e1]; exact hz, fun q h1 h2 => by rw [e1]; exact hk q h1 h2,
    ⟨Nat.le_trans hS.1 (by rw [e1]; exact hz), fun q h1 h2 => by rw [e1, hk q (Nat.lt_of_lt_of_le h1 hS.1) (fun z => h2 (hA q (Nat.lt_of_lt_of_le h1 hS.1) z))]; exact hS.2.1 q h1 h2, fun q hq => by
      rcases List.mem_append.mp hq with h | h
      · exact hS.2.2 q h
      · exact hf _ (hL q h)⟩⟩
theorem vx_calli {S SX : Type} {post : Int32 → S → Prop} {px : SX → Prop} {B : S → State → Prop} {BX : String → SX → State → Prop} {AX : Nat → Prop} (hr : vx_Run p l e R s m args below meth c H locs cells slots mc ms (F0 m pc ls st0) rest (va_Qi post B A1 a) (vx_X px BX AX) free) (hS : va_S A0 H0 H locs) (hA : ∀ q, q < H.size → A1 q → A0 q) (hf : ∀ q, free q → A0 q) (hAX : ∀ q, q < H.size → AX q → A0 q)
    (kx : ∀ (E : String) (ce : Cell) (q9 : Addr) (u : SX) (t : State) (H1 : Heap) (locs1 : List Loc), t.heap = H1 → s.vm.Alike t.vm → px u → BX E u t → H.size ≤ H1.size → (∀ q : Nat, q < H.size → ¬ AX q → H1[q]? = H[q]?) → va_S A0 H0 H1 locs1 → H1[q9]? = some ce → ce.vm = .none → s.vm.findClass E = some ce.cls → vx_W p l e R s m args below meth c H1 locs1 (cells + mc) (slots + ms) Q (F0 m pc ls rest) q9)
    (kk : ∀ (r : Int32) (u : S) (t : State) (H1 : Heap) (locs1 : List Loc), t.heap = H1 → s.vm.Alike t.vm → post r u → B u t → H.size ≤ H1.size → (∀ q : Nat, q < H.size → ¬ A1 q → H1[q]? = H[q]?) → va_S A0 H0 H1 locs1 → W p l e R s m args below meth c H1 locs1 (cells + mc) (slots + ms) Q (F0 m (pc + 3) ls (.int r :: rest))) : W p l e R s m args below meth c H locs cells slots Q (F0 m pc ls st0) := by
  intro T hT X
  rcases hr T hT X with ⟨v, st₀, t, T', L, h0, X', hL, e1, e2, ⟨⟨r, u, hv, hp, hb⟩, hF⟩, st⟩ | ⟨q, st₀, t, T', L, E, ce, h0, X', hL, e1, e2, ⟨u, hp, hb, hF⟩, hce, hcv, hcl, st⟩
  · cases hv
    obtain ⟨k1, k2, k3⟩ := vx_keep h0 e1 hS hA hf hL hF
    obtain ⟨t2, a1, b1⟩ := kk r u t T'.heap (locs ++ L) e1.symm (by rw [← e2]; exact X'.warmed.alike) hp hb k1 k2 k3 T' rfl X'
    exact ⟨t2, st t2 a1, b1⟩
  · obtain ⟨k1, k2, k3⟩ := vx_keep h0 e1 hS hAX hf hL hF
    obtain ⟨t2, a1, b1⟩ := kx E ce q u t T'.heap (locs ++ L) e1.symm (by rw [← e2]; exact X'.warmed.alike) hp hb k1 k2 k3 (by rw [e1]; exact hce) hcv hcl T' rfl X'
    exact ⟨t2, st.trans a1, b1⟩
theorem vx_calll {S SX : Type} {post : Int64 → S → Prop} {px : SX → Prop} {B : S → State → Prop} {BX : String → SX → State → Prop} {AX : Nat → Prop} (hr : vx_Run p l e R s m args below meth c H locs cells slots mc ms (F0 m pc ls st0) rest (va_Ql post B A1 a) (vx_X px BX AX) free) (hS : va_S A0 H0 H locs) (hA : ∀ q, q < H.size → A1 q → A0 q) (hf : ∀ q, free q → A0 q) (hAX : ∀ q, q < H.size → AX q → A0 q)
    (kx : ∀ (E : String) (ce : Cell) (q9 : Addr) (u : SX) (t : State) (H1 : Heap) (locs1 : List Loc), t.heap = H1 → s.vm.Alike t.vm → px u → BX E u t → H.size ≤ H1.size → (∀ q : Nat, q < H.size → ¬ AX q → H1[q]? = H[q]?) → va_S A0 H0 H1 locs1 → H1[q9]? = some ce → ce.vm = .none → s.vm.findClass E = some ce.cls → vx_W p l e R s m args below meth c H1 locs1 (cells + mc) (slots + ms) Q (F0 m pc ls rest) q9)
    (kk : ∀ (r : Int64) (u : S) (t : State) (H1 : Heap) (locs1 : List Loc), t.heap = H1 → s.vm.Alike t.vm → post r u → B u t → H.size ≤ H1.size → (∀ q : Nat, q < H.size → ¬ A1 q → H1[q]? = H[q]?) → va_S A0 H0 H1 locs1 → W p l e R s m args below meth c H1 locs1 (cells + mc) (slots + ms) Q (F0 m (pc + 3) ls (.long r :: rest))) : W p l e R s m args below meth c H locs cells slots Q (F0 m pc ls st0) := by
  intro T hT X
  rcases hr T hT X with ⟨v, st₀, t, T', L, h0, X', hL, e1, e2, ⟨⟨r, u, hv, hp, hb⟩, hF⟩, st⟩ | ⟨q, st₀, t, T', L, E, ce, h0, X', hL, e1, e2, ⟨u, hp, hb, hF⟩, hce, hcv, hcl, st⟩
  · cases hv
    obtain ⟨k1, k2, k3⟩ := vx_keep h0 e1 hS hA hf hL hF
    obtain ⟨t2, a1, b1⟩ := kk r u t T'.heap (locs ++ L) e1.symm (by rw [← e2]; exact X'.warmed.alike) hp hb k1 k2 k3 T' rfl X'
    exact ⟨t2, st t2 a1, b1⟩
  · obtain ⟨k1, k2, k3⟩ := vx_keep h0 e1 hS hAX hf hL hF
    obtain ⟨t2, a1, b1⟩ := kx E ce q u t T'.heap (locs ++ L) e1.symm (by rw [← e2]; exact X'.warmed.alike) hp hb k1 k2 k3 (by rw [e1]; exact hce) hcv hcl T' rfl X'
    exact ⟨t2, st.trans a1, b1⟩
theorem vx_callf {S SX : Type} {post : UInt32 → S → Prop} {px : SX → Prop} {B : S → State → Prop} {BX : String → SX → State → Prop} {AX : Nat → Prop} (hr : vx_Run p l e R s m args below meth c H locs cells slots mc ms (F0 m pc ls st0) rest (va_Qf post B A1 a) (vx_X px BX AX) free) (hS : va_S A0 H0 H locs) (hA : ∀ q, q < H.size → A1 q → A0 q) (hf : ∀ q, free q → A0 q) (hAX : ∀ q, q < H.size → AX q → A0 q)
    (kx : ∀ (E : String) (ce : Cell) (q9 : Addr) (u : SX) (t : State) (H1 : Heap) (locs1 : List Loc), t.heap = H1 → s.vm.Alike t.vm → px u → BX E u t → H.size ≤ H1.size → (∀ q : Nat, q < H.size → ¬ AX q → H1[q]? = H[q]?) → va_S A0 H0 H1 locs1 → H1[q9]? = some ce → ce.vm = .none → s.vm.findClass E = some ce.cls → vx_W p l e R s m args below meth c H1 locs1 (cells + mc) (slots + ms) Q (F0 m pc ls rest) q9)
    (kk : ∀ (r : UInt32) (u : S) (t : State) (H1 : Heap) (locs1 : List Loc), t.heap = H1 → s.vm.Alike t.vm → post r u → B u t → H.size ≤ H1.size → (∀ q : Nat, q < H.size → ¬ A1 q → H1[q]? = H[q]?) → va_S A0 H0 H1 locs1 → W p l e R s m args below meth c H1 locs1 (cells + mc) (slots + ms) Q (F0 m (pc + 3) ls (.float r :: rest))) : W p l e R s m args below meth c H locs cells slots Q (F0 m pc ls st0) := by
  intro T hT X
  rcases hr T hT X with ⟨v, st₀, t, T', L, h0, X', hL, e1, e2, ⟨⟨r, u, hv, hp, hb⟩, hF⟩, st⟩ | ⟨q, st₀, t, T', L, E, ce, h0, X', hL, e1, e2, ⟨u, hp, hb, hF⟩, hce, hcv, hcl, st⟩
  · cases hv
    obtain ⟨k1, k2, k3⟩ := vx_keep h0 e1 hS hA hf hL hF
    obtain ⟨t2, a1, b1⟩ := kk r u t T'.heap (locs ++ L) e1.symm (by rw [← e2]; exact X'.warmed.alike) hp hb k1 k2 k3 T' rfl X'
    exact ⟨t2, st t2 a1, b1⟩
  · obtain ⟨k1, k2, k3⟩ := vx_keep h0 e1 hS hAX hf hL hF
    obtain ⟨t2, a1, b1⟩ := kx E ce q u t T'.heap (locs ++ L) e1.symm (by rw [← e2]; exact X'.warmed.alike) hp hb k1 k2 k3 (by rw [e1]; exact hce) hcv hcl T' rfl X'
    exact ⟨t2, st.trans a1, b1⟩
theorem vx_calld {S SX : Type} {post : UInt64 → S → Prop} {px : SX → Prop} {B : S → State → Prop} {BX : String → SX → State → Prop} {AX : Nat → Prop} (hr : vx_Run p l e R s m args below meth c H locs cells slots mc ms (F0 m pc ls st0) rest (va_Qd post B A1 a) (vx_X px BX AX) free) (hS : va_S A0 H0 H locs) (hA : ∀ q, q < H.size → A1 q → A0 q) (hf : ∀ q, free q → A0 q) (hAX : ∀ q, q < H.size → AX q → A0 q)
    (kx : ∀ (E : String) (ce : Cell) (q9 : Addr) (u : SX) (t : State) (H1 : Heap) (locs1 : List Loc), t.heap = H1 → s.vm.Alike t.vm → px u → BX E u t → H.size ≤ H1.size → (∀ q : Nat, q < H.size → ¬ AX q → H1[q]? = H[q]?) → va_S A0 H0 H1 locs1 → H1[q9]? = some ce → ce.vm = .none → s.vm.findClass E = some ce.cls → vx_W p l e R s m args below meth c H1 locs1 (cells + mc) (slots + ms) Q (F0 m pc ls rest) q9)
    (kk : ∀ (r : UInt64) (u : S) (t : State) (H1 : Heap) (locs1 : List Loc), t.heap = H1 → s.vm.Alike t.vm → post r u → B u t → H.size ≤ H1.size → (∀ q : Nat, q < H.size → ¬ A1 q → H1[q]? = H[q]?) → va_S A0 H0 H1 locs1 → W p l e R s m args below meth c H1 locs1 (cells + mc) (slots + ms) Q (F0 m (pc + 3) ls (.double r :: rest))) : W p l e R s m args below meth c H locs cells slots Q (F0 m pc ls st0) := by
  intro T hT X
  rcases hr T hT X with ⟨v, st₀, t, T', L, h0, X', hL, e1, e2, ⟨⟨r, u, hv, hp, hb⟩, hF⟩, st⟩ | ⟨q, st₀, t, T', L, E, ce, h0, X', hL, e1, e2, ⟨u, hp, hb, hF⟩, hce, hcv, hcl, st⟩
  · cases hv
    obtain ⟨k1, k2, k3⟩ := vx_keep h0 e1 hS hA hf hL hF
    obtain ⟨t2, a1, b1⟩ := kk r u t T'.heap (locs ++ L) e1.symm (by rw [← e2]; exact X'.warmed.alike) hp hb k1 k2 k3 T' rfl X'
    exact ⟨t2, st t2 a1, b1⟩
  · obtain ⟨k1, k2, k3⟩ := vx_keep h0 e1 hS hAX hf hL hF
    obtain ⟨t2, a1, b1⟩ := kx E ce q u t T'.heap (locs ++ L) e1.symm (by rw [← e2]; exact X'.warmed.alike) hp hb k1 k2 k3 (by rw [e1]; exact hce) hcv hcl T' rfl X'
    exact ⟨t2, st.trans a1, b1⟩
theorem vx_callv {S SX : Type} {post : S → Prop} {px : SX → Prop} {B : S → State → Prop} {BX : String → SX → State → Prop} {AX : Nat → Prop} (hr : vx_Run p l e R s m args below meth c H locs cells slots mc ms (F0 m pc ls st0) rest (va_Qv post B A1 a) (vx_X px BX AX) free) (hS : va_S A0 H0 H locs) (hA : ∀ q, q < H.size → A1 q → A0 q) (hf : ∀ q, free q → A0 q) (hAX : ∀ q, q < H.size → AX q → A0 q)
    (kx : ∀ (E : String) (ce : Cell) (q9 : Addr) (u : SX) (t : State) (H1 : Heap) (locs1 : List Loc), t.heap = H1 → s.vm.Alike t.vm → px u → BX E u t → H.size ≤ H1.size → (∀ q : Nat, q < H.size → ¬ AX q → H1[q]? = H[q]?) → va_S A0 H0 H1 locs1 → H1[q9]? = some ce → ce.vm = .none → s.vm.findClass E = some ce.cls → vx_W p l e R s m args below meth c H1 locs1 (cells + mc) (slots + ms) Q (F0 m pc ls rest) q9)
    (kk : ∀ (u : S) (t : State) (H1 : Heap) (locs1 : List Loc), t.heap = H1 → s.vm.Alike t.vm → post u → B u t → H.size ≤ H1.size → (∀ q : Nat, q < H.size → ¬ A1 q → H1[q]? = H[q]?) → va_S A0 H0 H1 locs1 → W p l e R s m args below meth c H1 locs1 (cells + mc) (slots + ms) Q (F0 m (pc + 3) ls (rest))) : W p l e R s m args below meth c H locs cells slots Q (F0 m pc ls st0) := by
  intro T hT X
  rcases hr T hT X with ⟨v, st₀, t, T', L, h0, X', hL, e1, e2, ⟨⟨u, hv, hp, hb⟩, hF⟩, st⟩ | ⟨q, st₀, t, T', L, E, ce, h0, X', hL, e1, e2, ⟨u, hp, hb, hF⟩, hce, hcv, hcl, st⟩
  · cases hv
    obtain ⟨k1, k2, k3⟩ := vx_keep h0 e1 hS hA hf hL hF
    obtain ⟨t2, a1, b1⟩ := kk u t T'.heap (locs ++ L) e1.symm (by rw [← e2]; exact X'.warmed.alike) hp hb k1 k2 k3 T' rfl X'
    exact ⟨t2, st t2 a1, b1⟩
  · obtain ⟨k1, k2, k3⟩ := vx_keep h0 e1 hS hAX hf hL hF
    obtain ⟨t2, a1, b1⟩ := kx E ce q u t T'.heap (locs ++ L) e1.symm (by rw [← e2]; exact X'.warmed.alike) hp hb k1 k2 k3 (by rw [e1]; exact hce) hcv hcl T' rfl X'
    exact ⟨t2, st.trans a1, b1⟩
/-- caught by the row x of this method's table; the rows ahead don't take it -/
theorem vx_catch {own name : String} {E : String} {ce : Cell} {q : Addr} (hown : s.vm.findClass own = some m.cls) (pre : List ExceptionTableEntry) (x : ExceptionTableEntry) (suf : List ExceptionTableEntry) (hsplit : c.exceptionTable.toList = pre ++ x :: suf)
    (hpass : ∀ z ∈ pre, covers z pc = false ∨ (z.catchType ≠ 0 ∧ ∃ nm : String, (Cond.classLink own z.catchType nm).before args s = true ∧ va_Nc E nm s)) (hx : covers x pc = true) (h0 : x.catchType ≠ 0)
    (hlink : (Cond.classLink own x.catchType name).before args s = true) (hcast : (Cond.castable E name).before args s = true) (hcell : H[q]? = some ce) (hv : ce.vm = .none) (hcl : s.vm.findClass E = some ce.cls)
    (kk : W p l e R s m args below meth c H locs cells slots Q (F0 m x.handlerPc ls [.ref q])) : vx_W p l e R s m args below meth c H locs cells slots Q (F0 m pc ls rest) q := by
  intro T hT X
  have hpl : e.platform.magicAccessors = ({} : Platform).magicAccessors := by rw [X.admits.platform]
  obtain ⟨c3, c4, hc3, hc4, hasg⟩ := Cond.castable_spec hcast
  cases Option.some.inj (hc3.symm.trans hcl)
  obtain ⟨c5, hc5, hcl5⟩ := Cond.classLink_spec hown hlink e.platform hpl
  cases Option.some.inj (hc4.symm.trans hc5)
  obtain ⟨vm', X', st⟩ := X.thenCaughtThrough q (g := F0 m pc ls rest) rfl (Steps.refl _) (by rw [hT]; exact hcell) (by rw [hv]; rfl) (by obtain ⟨k9, h9, -⟩ := Vm.findClass_spec hcl; exact ⟨k9, h9⟩) pre x suf hsplit
    (fun z hz => by
      rcases hpass z hz with h | ⟨hz0, nm, hl1, hn1⟩
      · exact Or.inl h
      · obtain ⟨c6, hc6, hcl6⟩ := Cond.classLink_spec hown hl1 e.platform hpl
        obtain ⟨a8, b8, h1, h2, h3⟩ := hn1
        cases Option.some.inj (h1.symm.trans hcl)
        cases Option.some.inj (h2.symm.trans hc6)
        exact Or.inr ⟨hz0, _, hcl6, h3⟩) hx (Or.inr ⟨h0, c4, hcl5, hasg⟩)
  obtain ⟨t, a1, b1⟩ := kk (T.setVm vm') hT X'
  exact ⟨t, st.trans a1, b1⟩
end Rows
section Ends
variable {p : Program} {l : Launch} {e : Env} {R : Room} {s : State} {m : MethodId} {args : Array Value} {below : List Frame} {meth : Method} {c : Code} {H : Heap} {locs : List Loc} {cells slots : Nat} {Q : State → Prop}
variable {mc ms : Nat} {free : Addr → Prop} {A0 A1 : Nat → Prop} {H0 : Heap} {a : Array Value} {ls : Array Slot} {st0 rest : List Value}
variable {Qc : Array Value → State → Outcome → State → Prop} {XC : String → State → State → Prop}
/-- what a body that may throw owes at its end -/
def vx_MQ (below : List Frame) (Qc : Array Value → State → Outcome → State → Prop) (XC : String → State → State → Prop) (a : Array Value) (s : State) (mc ms : Nat) (free : Addr → Prop) : State → Prop := fun t =>
  ∃ o, t.status = .running ∧ Ended t below o ∧ vx_Q Qc XC mc ms free a s o t
theorem vx_ret {g : JFrame} {mc ms : Nat} (k : W p l e R s m args below meth c H locs cells slots (MQ below Qc args s mc ms free) g) : W p l e R s m args below meth c H locs cells slots (vx_MQ below Qc XC args s mc ms free) g := by
  intro T hT X
  obtain ⟨t, a1, o, b1, b2, b3, b4⟩ := k T hT X
  exact ⟨t, a1, o, b1, b2, Or.inl ⟨b3, b4⟩⟩
/-- not caught here: it goes on to the caller -/
theorem vx_widen {g : JFrame} {q : Addr} {k n : Nat} (h1 : cells ≤ k) (h2 : slots ≤ n) (kk : vx_W p l e R s m args below meth c H locs k n Q g q) : vx_W p l e R s m args below meth c H locs cells slots Q g q := fun T hT X => kk T hT (stand_widen X h1 h2)
theorem vx_out {pc : Nat} {E : String} {ce : Cell} {q : Addr} {mc ms : Nat} (hout : ∀ x ∈ c.exceptionTable.toList, covers x pc = false) (hlocks : meth.locks = false) (hcell : H[q]? = some ce) (hv : ce.vm = .none) (hcl : s.vm.findClass E = some ce.cls)
    (hx : ∀ t : State, t.heap = H → s.vm.Alike t.vm → XC E s t) (hf : ∀ z ∈ locs, free z.base) (hc : cells ≤ mc) (hs : slots ≤ ms) :
    vx_W p l e R s m args below meth c H locs cells slots (vx_MQ below Qc XC args s mc ms free) (F0 m pc ls rest) q := by
  intro T hT X
  obtain ⟨st1, hrun, hend, hW, hsm⟩ := X.leaveThrown q (g := F0 m pc ls rest) rfl rfl rfl hout hlocks
  have hcell9 : (T.setFrames (.throwing q :: below)).heap[q]? = some ce := by
    show T.heap[q]? = some ce
    rw [hT]; exact hcell
  exact ⟨_, st1, .threw q, hrun, hend, Or.inr ⟨q, rfl, E, ce, locs, hx _ hT hW.alike, hcell9, hv, hcl, hW, hsm.mono hc hs, hf⟩⟩
theorem vx_frame {U : State} {k n : Nat} (h : s.sameButNew ({ U with vm := s.vm } : State) locs k n) : s.heap.size ≤ U.heap.size ∧ ∀ q : Nat, q < s.heap.size → (∀ z ∈ locs, z.base ≠ q) → U.heap[q]? = s.heap[q]? := by
  obtain ⟨-, h2, -, -, -, h6⟩ := h
  refine ⟨h2, fun q hq hz => ?_⟩
  obtain ⟨c9, e1, e2, e3, e4⟩ := h6 q _ (Array.getElem?_eq_getElem hq)
  have hs : c9.slots = (s.heap[q]).slots := Array.ext_getElem? fun i => e4 i fun hm => hz _ hm rfl
  have h9 : c9 = s.heap[q] := by
    rw [hs] at e2
    exact e2
  have e5 : U.heap[q]? = some c9 := e1
  rw [e5, h9, Array.getElem?_eq_getElem hq]
/-- the words of a throw but the four that speak of the heap -/
def vx_no (w : Cond) : Bool := decide (w ≠ .isRef (.static Bundle.tN "UNASSIGNED_STACK" Bundle.steD)) && decide (w ≠ .isRef (.static Bundle.tN "SUPPRESSED_SENTINEL" Bundle.listD)) && decide (w ≠ .laysStatic Bundle.tN "UNASSIGNED_STACK" Bundle.steD) && decide (w ≠ .laysStatic Bundle.tN "SUPPRESSED_SENTINEL" Bundle.listD)
def vx_at0 (own : String) (ic : Nat) (X : String) (names : List String) : List Cond := (Bundle.ownAtoms0 own ic X names).filter vx_no
def vx_atS (own : String) (ic : Nat) (X : String) (names : List String) : List Cond := (Bundle.ownAtoms own ic X names).filter vx_no
/-- a word that the tables alone decide, or a good one -/
def vx_ot (w : Cond) : Bool := w.onTables || goodWord w
theorem vx_ot_at {args a' : Array Value} {s U : State} {w : Cond} (hW : s.WarmedH U.vm) (hvm : s.vm = U.vm) (hg : vx_ot w = true) (h : w.before args s = true) : w.before a' U = true := by
  simp only [vx_ot, Bool.or_eq_true] at hg
  rcases hg with hg | hg
  · exact va_tabs hg hvm h
  · exact word_at hW (good_of_word hg) h
/-- a list's words: the good ones out of the method's own list, the others by premises of their own -/
theorem vx_hat {args : Array Value} {s : State} {L B : List Cond} (h1 : ∀ w ∈ L.filter goodWord, w.before args s = true) (h2 : ∀ w ∈ L.filter (fun w => !goodWord w), w ∈ B) (h3 : ∀ w ∈ B, w.before args s = true) : ∀ w ∈ L, w.before args s = true := by
  intro w hw
  by_cases g : goodWord w = true
  · exact h1 w (List.mem_filter.mpr ⟨hw, g⟩)
  · refine h3 w (h2 w (List.mem_filter.mpr ⟨hw, ?_⟩))
    show (!goodWord w) = true
    cases hgw : goodWord w
    · rfl
    · exact absurd hgw g
theorem vx_c {args : Array Value} {s : State} {w : Cond} {B : List Cond} (h : w.before args s = true) (t : ∀ w ∈ B, w.before args s = true) : ∀ w' ∈ w :: B, w'.before args s = true := fun w' h' => (List.mem_cons.mp h').elim (fun e => by rw [e]; exact h) (t w')
theorem vx_n {args : Array Value} {s : State} : ∀ w ∈ ([] : List Cond), w.before args s = true := fun _ h => nomatch h
theorem vx_own {args : Array Value} {s : State} {L : List Cond} (h1 : ∀ w ∈ L.filter vx_no, w.before args s = true)
    (hU : (Cond.isRef (.static Bundle.tN "UNASSIGNED_STACK" Bundle.steD)).before args s = true) (hN : (Cond.isRef (.static Bundle.tN "SUPPRESSED_SENTINEL" Bundle.listD)).before args s = true)
    (lU : (Cond.laysStatic Bundle.tN "UNASSIGNED_STACK" Bundle.steD).before args s = true) (lN : (Cond.laysStatic Bundle.tN "SUPPRESSED_SENTINEL" Bundle.listD).before args s = true) : ∀ w ∈ L, w.before args s = true := by
  intro w hw
  by_cases e1 : w = .isRef (.static Bundle.tN "UNASSIGNED_STACK" Bundle.steD)
  · rw [e1]; exact hU
  · by_cases e2 : w = .isRef (.static Bundle.tN "SUPPRESSED_SENTINEL" Bundle.listD)
    · rw [e2]; exact hN
    · by_cases e3 : w = .laysStatic Bundle.tN "UNASSIGNED_STACK" Bundle.steD
      · rw [e3]; exact lU
      · by_cases e4 : w = .laysStatic Bundle.tN "SUPPRESSED_SENTINEL" Bundle.listD
        · rw [e4]; exact lN
        · exact h1 w (List.mem_filter.mpr ⟨hw, by unfold vx_no; rw [decide_eq_true e1, decide_eq_true e2, decide_eq_true e3, decide_eq_true e4]; rfl⟩)
/-- where a static field lies, its class's statics cell in H -/
def vx_L (C n d : String) (A : Nat → Prop) (U : State) (H : Heap) : Prop := ∃ (c : ClassId) (k : Class) (i : Nat) (f : Field) (a : Nat) (cell : Cell), U.vm.findClass C = some c ∧ U.fieldFound? C n d = some (c, k, i, f) ∧ f.isStatic = true ∧ k.statics = some a ∧ H[a]? = some cell ∧ cell.vm.isStatics = true ∧ cell.cls = c ∧ f.slot < cell.slots.size ∧ k.staticTypes[f.slot]? = some f.type ∧ ¬ A a
theorem vx_L.moved {C n d : String} {A : Nat → Prop} {u U : State} {H : Heap} (hvm : u.vm.Alike U.vm) (h : vx_L C n d A u H) : vx_L C n d A U H := by
  obtain ⟨c, k, i, f, a, cell, h1, h2, h3, h4, h5, h6, h7, h8, h9, h10⟩ := h
  obtain ⟨k', hi', he⟩ := State.fieldFound?_setVm hvm h2
  exact ⟨c, k', i, f, a, cell, by rw [hvm.findClass]; exact h1, hi', h3, by rw [he]; exact h4, h5, h6, h7, h8, by rw [he]; exact h9, h10⟩
theorem vx_L.kept {C n d : String} {A : Nat → Prop} {U : State} {H H1 : Heap} (h : vx_L C n d A U H) (hq : ∀ a : Nat, a < H.size → ¬ A a → H1[a]? = H[a]?) : vx_L C n d A U H1 := by
  obtain ⟨c, k, i, f, a, cell, h1, h2, h3, h4, h5, h6, h7, h8, h9, h10⟩ := h
  exact ⟨c, k, i, f, a, cell, h1, h2, h3, h4, by rw [hq a (Array.getElem?_eq_some_iff.mp h5).1 h10]; exact h5, h6, h7, h8, h9, h10⟩
theorem vx_L.narrow {C n d : String} {A B : Nat → Prop} {U : State} {H : Heap} (h : vx_L C n d A U H) (hAB : ∀ q, B q → A q) : vx_L C n d B U H := by
  obtain ⟨c, k, i, f, a, cell, h1, h2, h3, h4, h5, h6, h7, h8, h9, h10⟩ := h
  exact ⟨c, k, i, f, a, cell, h1, h2, h3, h4, h5, h6, h7, h8, h9, fun z => h10 (hAB _ z)⟩
theorem vx_L.word {C n d : String} {A : Nat → Prop} {s : State} {args : Array Value} (h : vx_L C n d A s s.heap) : (Cond.laysStatic C n d).before args s = true := by
  obtain ⟨c, k, i, f, a, cell, h1, h2, h3, h4, h5, h6, h7, h8, h9, -⟩ := h
  show (Cond.laysStatic C n d).holds args s none s [] = true
  exact Cond.laysStatic_of h1 h2 h3 h4 h5 h6 h7 h8 h9
/-- .. and what it holds: null or some reference -/
def vx_Zq (C n d : String) (A : Nat → Prop) (U : State) (H : Heap) : Prop := va_Zq C n d A U H ∧ vx_L C n d A U H
theorem vx_Zq.moved {C n d : String} {A : Nat → Prop} {u U : State} {H : Heap} (hvm : u.vm.Alike U.vm) (h : vx_Zq C n d A u H) : vx_Zq C n d A U H := ⟨va_Zq.moved hvm h.1, vx_L.moved hvm h.2⟩
theorem vx_Zq.kept {C n d : String} {A : Nat → Prop} {U : State} {H H1 : Heap} (h : vx_Zq C n d A U H) (hq : ∀ a : Nat, a < H.size → ¬ A a → H1[a]? = H[a]?) : vx_Zq C n d A U H1 := ⟨va_Zq.kept h.1 hq, vx_L.kept h.2 hq⟩
theorem vx_Zq.narrow {C n d : String} {A B : Nat → Prop} {U : State} {H : Heap} (h : vx_Zq C n d A U H) (hAB : ∀ q, B q → A q) : vx_Zq C n d B U H := ⟨va_Zq.narrow h.1 hAB, vx_L.narrow h.2 hAB⟩
theorem vx_Zqof {args : Array Value} {s : State} {C n d : String} {A : Nat → Prop} (hl : (Cond.laysStatic C n d).before args s = true) (hini : (Cond.initialized C).before args s = true) (h : (Cond.isRef (.static C n d)).before args s = true) (hA : ∀ a : Nat, a < s.heap.size → ¬ A a) : vx_Zq C n d A s s.heap := by
  refine ⟨va_Zqof hl hini h hA, ?_⟩
  obtain ⟨c, k, i, f, a, cell, h1, h2, h3, h4, h5, h6, h7, h8, h9⟩ := Cond.laysStatic_spec hl
  exact ⟨c, k, i, f, a, cell, h1, h2, h3, h4, h5, h6, h7, h8, h9, hA a (Array.getElem?_eq_some_iff.mp h5).1⟩
theorem vx_isRef {C n d : String} {v : Value} {A : Nat → Prop} {s : State} {args : Array Value} (h : va_Z C n d v A s s.heap) (hv : v.isRef = true) : (Cond.isRef (.static C n d)).before args s = true := by
  obtain ⟨cf, kf, fi, f, a, cell, h1, h2, h3, h4, h5, h6, h7, -⟩ := h
  have he : (Term.static C n d).eval args s none [] s = some v := by
    simp [Term.eval, State.fieldNamed?, h1, h2, h4, h5, h6, h7]
  simp only [Cond.before, Cond.holds, Cond.value, he]
  cases v <;> simp_all [Value.isRef]
theorem vx_isRefq {C n d : String} {A : Nat → Prop} {s : State} {args : Array Value} (h : va_Zq C n d A s s.heap) : (Cond.isRef (.static C n d)).before args s = true := by
  rcases h with h | ⟨t, h⟩
  · exact vx_isRef h rfl
  · exact vx_isRef h rfl
/-- the same frame, seen from here: as if the method were called anew in this heap -/
theorem vx_rebase {T : State} (X : Stand p l e R s m args below meth c T locs cells slots) {R' : Room} (hf : R'.frames ≤ R.frames) (hl : R'.locals ≤ R.locals) (hc : cells + R'.cells ≤ R.cells) (hs : slots + R'.slots ≤ R.slots) :
    Stand p l e R' ((T.setVm s.vm).setFrames (.invoking m args :: below)) m args below meth c T [] 0 0 := by
  have htop : (T.setVm s.vm).topJava?.isSome := X.here.top
  have hF : ((T.setVm s.vm).setFrames (.invoking m args :: below)).frames = .invoking m args :: below := State.frames_setFrames _ (State.cur_lt_of_top htop)
  obtain ⟨g₀, hg0⟩ := Option.isSome_iff_exists.mp htop
  obtain ⟨r, hr⟩ := State.topJava?_eq_some.mp hg0
  have hl9 : e.platform.stackLimits (T.setVm s.vm).me = e.platform.stackLimits s.me := X.limits
  have hb9 : (T.setVm s.vm).me.stackBytes = s.me.stackBytes := X.bytes
  refine ⟨X.admits, X.cas, X.clock, hF, ?_, X.hears, X.method, X.code, X.here, X.tail, X.warmed, ?_, ?_, ?_⟩
  · have h := X.room
    have hU : ((T.setVm s.vm).setFrames (.invoking m args :: below)).localsInUse = s.localsInUse := by
      rw [State.localsInUse_invoking hF (meth := meth) (c := c) X.method X.code, State.localsInUse_invoking X.frames X.method X.code]
    simp only [State.hasRoom, Bool.and_eq_true, decide_eq_true_eq] at h ⊢
    obtain ⟨⟨⟨⟨h1, h2, h3, h4, h5, h6⟩, h7⟩, h8⟩, h9⟩ := h
    rw [X.frames, List.length_cons] at h2 h3
    have q1 := X.heapSize
    have q2 := X.used
    simp only [hF, hU, List.length_cons, State.stackLimits_setFrames, State.stackBytes_setFrames, hl9, hb9]
    refine ⟨⟨⟨⟨by omega, by omega, by omega, by omega, by omega, h6⟩, ?_⟩, ?_⟩, X.book⟩
    · show T.heap.size + R'.cells ≤ e.platform.maxCells
      omega
    · show T.slotsUsed + R'.slots ≤ e.platform.maxSlots
      omega
  · rw [State.stackLimits_setFrames]; rfl
  · rw [State.stackBytes_setFrames]; rfl
  · refine ⟨?_, Nat.le_refl _, Nat.le_refl _, ?_, ?_, fun a c9 h9 => ⟨c9, h9, rfl, rfl, fun _ _ => rfl⟩⟩
    · obtain ⟨t, ht, -⟩ := State.frames_cons hr
      show T.setVm s.vm = { ((T.setVm s.vm).setFrames (.invoking m args :: below)).setFrames (T.setVm s.vm).frames with heap := T.heap, slotsUsed := T.slotsUsed }
      rw [State.setFrames_setFrames, State.setFrames_self ht]
      rfl
    · show T.slotsUsed = T.slotsUsed + ((T.heap.toList.drop T.heap.size).map (·.slots.size)).sum
      rw [List.drop_eq_nil_of_le (Nat.le_of_eq Array.length_toList)]
      rfl
    · show ((T.heap.toList.drop T.heap.size).map (·.slots.size)).sum ≤ 0
      rw [List.drop_eq_nil_of_le (Nat.le_of_eq Array.length_toList)]
      exact Nat.le_refl _
/-- 'throw new E()': new; dup; invokespecial; athrow -/
theorem vx_throw0 {cc : ByteArray} {pc : Nat} (hexec : p.tables.exec = Jvm.exec) (hb : c.code = cc) (hl : l.stackTraces = false) {own cls : String} {names : List String} {ik ic mc ms : Nat} {A : Nat → Prop}
    (hown : s.vm.findClass own = some m.cls) (hcls : Bundle.fit cls = true) (hnames : ∀ n ∈ names, Bundle.fit n = true)
    (hk : (Cond.classLink own ik cls).before args s = true) (hini : (Cond.initialized cls).before args s = true) (hat : ∀ w ∈ vx_at0 own ic cls names, w.before args s = true)
    (hgood : ∀ w ∈ Cond.classLink own ik cls :: Cond.initialized cls :: vx_at0 own ic cls names, vx_ot w = true)
    (hU : vx_Zq Bundle.tN "UNASSIGNED_STACK" Bundle.steD A s s.heap) (hN : vx_Zq Bundle.tN "SUPPRESSED_SENTINEL" Bundle.listD A s s.heap) (hS : va_S A s.heap H locs) (hsize : ls.size = c.maxLocals)
    (d0 : decode cc pc = .ok (.new ik, 3)) (d3 : decode cc (pc + 3) = .ok (.dup, 1)) (d4 : decode cc (pc + 4) = .ok (.invokespecial ic, 3)) (d7 : decode cc (pc + 7) = .ok (.athrow, 1))
    (hout : ∀ x ∈ c.exceptionTable.toList, covers x (pc + 7) = false)
    (hRframes : names.length + 3 < R.frames) (hRlocals : (rest.map fun v => v.category).sum + (13 * (names.length + 1) + 42) ≤ R.locals) (hRcells : cells + 1 ≤ R.cells) (hRslots : slots + 6 ≤ R.slots) (hlocks : meth.locks = false)
    (hx : ∀ t : State, s.vm.Alike t.vm → H.size ≤ t.heap.size → (∀ q : Nat, q < H.size → t.heap[q]? = H[q]?) → XC cls s t)
    (hf : ∀ z ∈ locs, free z.base) (hc : cells + 1 ≤ mc) (hs : slots + 6 ≤ ms) :
    W p l e R s m args below meth c H locs cells slots (vx_MQ below Qc XC args s mc ms free) (F0 m pc ls rest) := by
  intro T hT X
  have htr : e.platform.stackTraces = false := (show e.platform.stackTraces = l.stackTraces by rw [X.admits.platform]).trans hl
  have Y := vx_rebase X (R' := { frames := R.frames, locals := R.locals, cells := 1, slots := 6 }) (Nat.le_refl _) (Nat.le_refl _) hRcells hRslots
  obtain ⟨s', hA⟩ : ∃ z, z = (T.setVm s.vm).setFrames (.invoking m args :: below) := ⟨_, rfl⟩
  rw [← hA] at Y
  have hvm : s'.vm = s.vm := by rw [hA]; rfl
  have hhp : s'.heap = H := by rw [hA]; exact hT
  have hW0 : s.WarmedH s'.vm := by rw [hvm]; exact State.WarmedH.refl s
  have hat' : ∀ w ∈ vx_at0 own ic cls names, w.before args s' = true := fun w hw => vx_ot_at hW0 hvm.symm (hgood w (List.mem_cons_of_mem _ (List.mem_cons_of_mem _ hw))) (hat w hw)
  have hk' : (Cond.classLink own ik cls).before args s' = true := vx_ot_at hW0 hvm.symm (hgood _ List.mem_cons_self) hk
  have hini' : (Cond.initialized cls).before args s' = true := vx_ot_at hW0 hvm.symm (hgood _ (List.mem_cons_of_mem _ List.mem_cons_self)) hini
  have hU' : vx_Zq Bundle.tN "UNASSIGNED_STACK" Bundle.steD A s' s'.heap := by rw [hhp]; exact vx_Zq.moved hW0.alike (hU.kept hS.2.1)
  have hN' : vx_Zq Bundle.tN "SUPPRESSED_SENTINEL" Bundle.listD A s' s'.heap := by rw [hhp]; exact vx_Zq.moved hW0.alike (hN.kept hS.2.1)
  have h : ∀ w ∈ Bundle.ownAtoms0 own ic cls names, w.before args s' = true := vx_own hat' (vx_isRefq hU'.1) (vx_isRefq hN'.1) hU'.2.word hN'.2.word
  have hown' : s'.vm.findClass own = some m.cls := by rw [hvm]; exact hown
  have hins : (Cond.instantiable cls 6).before args s' = true := h _ (by simp [Bundle.ownAtoms0])
  obtain ⟨vm₁, cX, kX, hfX, hkX, -, -, X₁, st1⟩ := Y.newCold hexec (own := own) (C := cls) (index := ik) (n := 6) hown' hk' hins hini'
    (g := F0 m pc ls rest) rfl (by rw [hb]; exact d0) (Nat.le_refl _) (Nat.le_refl _)
  generalize hT1 : (T.setVm vm₁).pushCell { cls := cX, slots := kX.instanceTypes.map defaultValue, vm := .none } = T1 at X₁ st1
  have hcat : (Value.ref T.heap.size).category = 1 := rfl
  have hcellA : T1.heap[T.heap.size]? = some (freshCell cX kX) := by rw [← hT1]; exact State.heap_pushCell_size _ _
  have d3' : decode c.code (pc + 3) = .ok (.dup, 1) := by rw [hb]; exact d3
  obtain ⟨U, hsteps, hrun, hend, hW, hsame, ce, hce, hO⟩ := X₁.ctorThrow0 hexec htr (own := own) (cls := cls) (names := names) (ic := ic) hown' hcls hnames h (fun x hx => nomatch hx) hfX hkX hcellA (by rw [hhp, hT]; exact Nat.le_refl _)
    (g := { method := m, pc := pc + 4, locals := ls, stack := .ref T.heap.size :: .ref T.heap.size :: rest, locked := none }) rfl hsize rfl rfl (rest := rest) rfl
    (by rw [hb]; exact d4) (by rw [hb]; exact d7) hout hRframes (by simp only [List.map_cons, List.sum_cons, hcat]; omega) hlocks
  obtain ⟨f1, f2⟩ := vx_frame hsame
  rw [hhp] at f1 f2
  have hWs : s.WarmedH U.vm := State.WarmedH.trans hW0 hW
  have hcl : s.vm.findClass cls = some ce.cls := by
    have h9 := hO.cls
    rw [hvm] at h9
    exact h9
  have hall : s.sameButNew ({ U with vm := s.vm } : State) locs mc ms := by
    subst hA
    obtain ⟨e1, e2⟩ := hsame
    rw [State.setFrames_setFrames] at e1
    have h2 : (T.setVm s.vm).sameButNew ({ U with vm := s.vm } : State) [] (0 + 1) (0 + 6) := ⟨e1, e2⟩
    have h3 := X.same.trans h2
    rw [List.append_nil] at h3
    exact h3.mono hc hs
  refine ⟨U, ?_, .threw T.heap.size, hrun, hend, Or.inr ⟨T.heap.size, rfl, cls, ce, locs, hx U hWs.alike f1 (fun q hq => f2 q hq (fun z hz => nomatch hz)), hce, hO.vm, hcl, hWs, hall, hf⟩⟩
  refine st1 _ ?_
  show Steps p.tables e below (T1.setTop { method := m, pc := pc + 3, locals := ls, stack := .ref T.heap.size :: rest, locked := none }) _
  jvm_step X₁.here [X₁.here.top, hexec, d3', Value.category]
  exact hsteps
/-- 'throw new E("text")': new; dup; ldc; invokespecial; athrow -/
theorem vx_throwS {cc : ByteArray} {pc : Nat} (hexec : p.tables.exec = Jvm.exec) (hb : c.code = cc) (hl : l.stackTraces = false) {own cls text : String} {names : List String} {ik is ic mc ms sa : Nat} {A : Nat → Prop}
    (hown : s.vm.findClass own = some m.cls) (hcls : Bundle.fit cls = true) (hnames : ∀ n ∈ names, Bundle.fit n = true)
    (hk : (Cond.classLink own ik cls).before args s = true) (hini : (Cond.initialized cls).before args s = true) (hstr : vk_R own is text sa s) (hat : ∀ w ∈ vx_atS own ic cls names, w.before args s = true)
    (hgood : ∀ w ∈ Cond.classLink own ik cls :: Cond.initialized cls :: vx_atS own ic cls names, vx_ot w = true)
    (hU : vx_Zq Bundle.tN "UNASSIGNED_STACK" Bundle.steD A s s.heap) (hN : vx_Zq Bundle.tN "SUPPRESSED_SENTINEL" Bundle.listD A s s.heap) (hS : va_S A s.heap H locs) (hsize : ls.size = c.maxLocals)
    (d0 : decode cc pc = .ok (.new ik, 3)) (d3 : decode cc (pc + 3) = .ok (.dup, 1)) (d4 : decode cc (pc + 4) = .ok (.ldc is, 2)) (d6 : decode cc (pc + 6) = .ok (.invokespecial ic, 3)) (d9 : decode cc (pc + 9) = .ok (.athrow, 1))
    (hout : ∀ x ∈ c.exceptionTable.toList, covers x (pc + 9) = false)
    (hRframes : names.length + 3 < R.frames) (hRlocals : (rest.map fun v => v.category).sum + (13 * (names.length + 1) + 43) ≤ R.locals) (hRcells : cells + 1 ≤ R.cells) (hRslots : slots + 6 ≤ R.slots) (hlocks : meth.locks = false)
    (hx : ∀ t : State, s.vm.Alike t.vm → H.size ≤ t.heap.size → (∀ q : Nat, q < H.size → t.heap[q]? = H[q]?) → XC cls s t)
    (hf : ∀ z ∈ locs, free z.base) (hc : cells + 1 ≤ mc) (hs : slots + 6 ≤ ms) :
    W p l e R s m args below meth c H locs cells slots (vx_MQ below Qc XC args s mc ms free) (F0 m pc ls rest) := by
  intro T hT X
  have htr : e.platform.stackTraces = false := (show e.platform.stackTraces = l.stackTraces by rw [X.admits.platform]).trans hl
  have Y := vx_rebase X (R' := { frames := R.frames, locals := R.locals, cells := 1, slots := 6 }) (Nat.le_refl _) (Nat.le_refl _) hRcells hRslots
  obtain ⟨s', hA⟩ : ∃ z, z = (T.setVm s.vm).setFrames (.invoking m args :: below) := ⟨_, rfl⟩
  rw [← hA] at Y
  have hvm : s'.vm = s.vm := by rw [hA]; rfl
  have hhp : s'.heap = H := by rw [hA]; exact hT
  have hW0 : s.WarmedH s'.vm := by rw [hvm]; exact State.WarmedH.refl s
  have hat' : ∀ w ∈ vx_atS own ic cls names, w.before args s' = true := fun w hw => vx_ot_at hW0 hvm.symm (hgood w (List.mem_cons_of_mem _ (List.mem_cons_of_mem _ hw))) (hat w hw)
  have hk' : (Cond.classLink own ik cls).before args s' = true := vx_ot_at hW0 hvm.symm (hgood _ List.mem_cons_self) hk
  have hini' : (Cond.initialized cls).before args s' = true := vx_ot_at hW0 hvm.symm (hgood _ (List.mem_cons_of_mem _ List.mem_cons_self)) hini
  have hU' : vx_Zq Bundle.tN "UNASSIGNED_STACK" Bundle.steD A s' s'.heap := by rw [hhp]; exact vx_Zq.moved hW0.alike (hU.kept hS.2.1)
  have hN' : vx_Zq Bundle.tN "SUPPRESSED_SENTINEL" Bundle.listD A s' s'.heap := by rw [hhp]; exact vx_Zq.moved hW0.alike (hN.kept hS.2.1)
  have h : ∀ w ∈ Bundle.ownAtoms own ic cls names, w.before args s' = true := vx_own hat' (vx_isRefq hU'.1) (vx_isRefq hN'.1) hU'.2.word hN'.2.word
  have hown' : s'.vm.findClass own = some m.cls := by rw [hvm]; exact hown
  have hins : (Cond.instantiable cls 6).before args s' = true := h _ (by simp [Bundle.ownAtoms])
  obtain ⟨vm₁, cX, kX, hfX, hkX, -, -, X₁, st1⟩ := Y.newCold hexec (own := own) (C := cls) (index := ik) (n := 6) hown' hk' hins hini'
    (g := F0 m pc ls rest) rfl (by rw [hb]; exact d0) (Nat.le_refl _) (Nat.le_refl _)
  generalize hT1 : (T.setVm vm₁).pushCell { cls := cX, slots := kX.instanceTypes.map defaultValue, vm := .none } = T1 at X₁ st1
  have hcat : (Value.ref T.heap.size).category = 1 := rfl
  have hcellA : T1.heap[T.heap.size]? = some (freshCell cX kX) := by rw [← hT1]; exact State.heap_pushCell_size _ _
  have d3' : decode c.code (pc + 3) = .ok (.dup, 1) := by rw [hb]; exact d3
  have d4' : decode c.code (pc + 4) = .ok (.ldc is, 2) := by rw [hb]; exact d4
  have hstr' : vk_R own is text sa s' := vk_R.warm hW0 hstr
  obtain ⟨U, hsteps, hrun, hend, hW, hsame, ce, hce, hO⟩ := X₁.ctorThrowS hexec htr (own := own) (cls := cls) (names := names) (ic := ic) hown' hcls hnames h (fun x hx => nomatch hx) hfX hkX hcellA (by rw [hhp, hT]; exact Nat.le_refl _) (msg := .ref sa) rfl
    (g := { method := m, pc := pc + 6, locals := ls, stack := .ref sa :: .ref T.heap.size :: .ref T.heap.size :: rest, locked := none }) rfl hsize rfl rfl (rest := rest) rfl
    (by rw [hb]; exact d6) (by rw [hb]; exact d9) hout hRframes (by simp only [List.map_cons, List.sum_cons, hcat]; omega) hlocks
  obtain ⟨f1, f2⟩ := vx_frame hsame
  rw [hhp] at f1 f2
  have hWs : s.WarmedH U.vm := State.WarmedH.trans hW0 hW
  have hcl : s.vm.findClass cls = some ce.cls := by
    have h9 := hO.cls
    rw [hvm] at h9
    exact h9
  have hall : s.sameButNew ({ U with vm := s.vm } : State) locs mc ms := by
    subst hA
    obtain ⟨e1, e2⟩ := hsame
    rw [State.setFrames_setFrames] at e1
    have h2 : (T.setVm s.vm).sameButNew ({ U with vm := s.vm } : State) [] (0 + 1) (0 + 6) := ⟨e1, e2⟩
    have h3 := X.same.trans h2
    rw [List.append_nil] at h3
    exact h3.mono hc hs
  refine ⟨U, ?_, .threw T.heap.size, hrun, hend, Or.inr ⟨T.heap.size, rfl, cls, ce, locs, hx U hWs.alike f1 (fun q hq => f2 q hq (fun z hz => nomatch hz)), hce, hO.vm, hcl, hWs, hall, hf⟩⟩
  refine st1 _ ?_
  show Steps p.tables e below (T1.setTop { method := m, pc := pc + 3, locals := ls, stack := .ref T.heap.size :: rest, locked := none }) _
  jvm_step X₁.here [X₁.here.top, hexec, d3', Value.category]
  exact X₁.ldcString hexec (own := own) (text := text) (index := is) (a := sa) hown' hstr'.1 hstr'.2
    (g := { method := m, pc := pc + 4, locals := ls, stack := .ref T.heap.size :: .ref T.heap.size :: rest, locked := none }) rfl d4' _ hsteps
/-- 'throw new E("text")', the text by a wide index -/
theorem vx_throwSW {cc : ByteArray} {pc : Nat} (hexec : p.tables.exec = Jvm.exec) (hb : c.code = cc) (hl : l.stackTraces = false) {own cls text : String} {names : List String} {ik is ic mc ms sa : Nat} {A : Nat → Prop}
    (hown : s.vm.findClass own = some m.cls) (hcls : Bundle.fit cls = true) (hnames : ∀ n ∈ names, Bundle.fit n = true)
    (hk : (Cond.classLink own ik cls).before args s = true) (hini : (Cond.initialized cls).before args s = true) (hstr : vk_R own is text sa s) (hat : ∀ w ∈ vx_atS own ic cls names, w.before args s = true)
    (hgood : ∀ w ∈ Cond.classLink own ik cls :: Cond.initialized cls :: vx_atS own ic cls names, vx_ot w = true)
    (hU : vx_Zq Bundle.tN "UNASSIGNED_STACK" Bundle.steD A s s.heap) (hN : vx_Zq Bundle.tN "SUPPRESSED_SENTINEL" Bundle.listD A s s.heap) (hS : va_S A s.heap H locs) (hsize : ls.size = c.maxLocals)
    (d0 : decode cc pc = .ok (.new ik, 3)) (d3 : decode cc (pc + 3) = .ok (.dup, 1)) (d4 : decode cc (pc + 4) = .ok (.ldc_w is, 3)) (d7 : decode cc (pc + 7) = .ok (.invokespecial ic, 3)) (d10 : decode cc (pc + 10) = .ok (.athrow, 1))
    (hout : ∀ x ∈ c.exceptionTable.toList, covers x (pc + 10) = false)
    (hRframes : names.length + 3 < R.frames) (hRlocals : (rest.map fun v => v.category).sum + (13 * (names.length + 1) + 43) ≤ R.locals) (hRcells : cells + 1 ≤ R.cells) (hRslots : slots + 6 ≤ R.slots) (hlocks : meth.locks = false)
    (hx : ∀ t : State, s.vm.Alike t.vm → H.size ≤ t.heap.size → (∀ q : Nat, q < H.size → t.heap[q]? = H[q]?) → XC cls s t)
    (hf : ∀ z ∈ locs, free z.base) (hc : cells + 1 ≤ mc) (hs : slots + 6 ≤ ms) :
    W p l e R s m args below meth c H locs cells slots (vx_MQ below Qc XC args s mc ms free) (F0 m pc ls rest) := by
  intro T hT X
  have htr : e.platform.stackTraces = false := (show e.platform.stackTraces = l.stackTraces by rw [X.admits.platform]).trans hl
  have Y := vx_rebase X (R' := { frames := R.frames, locals := R.locals, cells := 1, slots := 6 }) (Nat.le_refl _) (Nat.le_refl _) hRcells hRslots
  obtain ⟨s', hA⟩ : ∃ z, z = (T.setVm s.vm).setFrames (.invoking m args :: below) := ⟨_, rfl⟩
  rw [← hA] at Y
  have hvm : s'.vm = s.vm := by rw [hA]; rfl
  have hhp : s'.heap = H := by rw [hA]; exact hT
  have hW0 : s.WarmedH s'.vm := by rw [hvm]; exact State.WarmedH.refl s
  have hat' : ∀ w ∈ vx_atS own ic cls names, w.before args s' = true := fun w hw => vx_ot_at hW0 hvm.symm (hgood w (List.mem_cons_of_mem _ (List.mem_cons_of_mem _ hw))) (hat w hw)
  have hk' : (Cond.classLink own ik cls).before args s' = true := vx_ot_at hW0 hvm.symm (hgood _ List.mem_cons_self) hk
  have hini' : (Cond.initialized cls).before args s' = true := vx_ot_at hW0 hvm.symm (hgood _ (List.mem_cons_of_mem _ List.mem_cons_self)) hini
  have hU' : vx_Zq Bundle.tN "UNASSIGNED_STACK" Bundle.steD A s' s'.heap := by rw [hhp]; exact vx_Zq.moved hW0.alike (hU.kept hS.2.1)
  have hN' : vx_Zq Bundle.tN "SUPPRESSED_SENTINEL" Bundle.listD A s' s'.heap := by rw [hhp]; exact vx_Zq.moved hW0.alike (hN.kept hS.2.1)
  have h : ∀ w ∈ Bundle.ownAtoms own ic cls names, w.before args s' = true := vx_own hat' (vx_isRefq hU'.1) (vx_isRefq hN'.1) hU'.2.word hN'.2.word
  have hown' : s'.vm.findClass own = some m.cls := by rw [hvm]; exact hown
  have hins : (Cond.instantiable cls 6).before args s' = true := h _ (by simp [Bundle.ownAtoms])
  obtain ⟨vm₁, cX, kX, hfX, hkX, -, -, X₁, st1⟩ := Y.newCold hexec (own := own) (C := cls) (index := ik) (n := 6) hown' hk' hins hini'
    (g := F0 m pc ls rest) rfl (by rw [hb]; exact d0) (Nat.le_refl _) (Nat.le_refl _)
  generalize hT1 : (T.setVm vm₁).pushCell { cls := cX, slots := kX.instanceTypes.map defaultValue, vm := .none } = T1 at X₁ st1
  have hcat : (Value.ref T.heap.size).category = 1 := rfl
  have hcellA : T1.heap[T.heap.size]? = some (freshCell cX kX) := by rw [← hT1]; exact State.heap_pushCell_size _ _
  have d3' : decode c.code (pc + 3) = .ok (.dup, 1) := by rw [hb]; exact d3
  have d4' : decode c.code (pc + 4) = .ok (.ldc_w is, 3) := by rw [hb]; exact d4
  have hstr' : vk_R own is text sa s' := vk_R.warm hW0 hstr
  obtain ⟨U, hsteps, hrun, hend, hW, hsame, ce, hce, hO⟩ := X₁.ctorThrowS hexec htr (own := own) (cls := cls) (names := names) (ic := ic) hown' hcls hnames h (fun x hx => nomatch hx) hfX hkX hcellA (by rw [hhp, hT]; exact Nat.le_refl _) (msg := .ref sa) rfl
    (g := { method := m, pc := pc + 7, locals := ls, stack := .ref sa :: .ref T.heap.size :: .ref T.heap.size :: rest, locked := none }) rfl hsize rfl rfl (rest := rest) rfl
    (by rw [hb]; exact d7) (by rw [hb]; exact d10) hout hRframes (by simp only [List.map_cons, List.sum_cons, hcat]; omega) hlocks
  obtain ⟨f1, f2⟩ := vx_frame hsame
  rw [hhp] at f1 f2
  have hWs : s.WarmedH U.vm := State.WarmedH.trans hW0 hW
  have hcl : s.vm.findClass cls = some ce.cls := by
    have h9 := hO.cls
    rw [hvm] at h9
    exact h9
  have hall : s.sameButNew ({ U with vm := s.vm } : State) locs mc ms := by
    subst hA
    obtain ⟨e1, e2⟩ := hsame
    rw [State.setFrames_setFrames] at e1
    have h2 : (T.setVm s.vm).sameButNew ({ U with vm := s.vm } : State) [] (0 + 1) (0 + 6) := ⟨e1, e2⟩
    have h3 := X.same.trans h2
    rw [List.append_nil] at h3
    exact h3.mono hc hs
  refine ⟨U, ?_, .threw T.heap.size, hrun, hend, Or.inr ⟨T.heap.size, rfl, cls, ce, locs, hx U hWs.alike f1 (fun q hq => f2 q hq (fun z hz => nomatch hz)), hce, hO.vm, hcl, hWs, hall, hf⟩⟩
  refine st1 _ ?_
  show Steps p.tables e below (T1.setTop { method := m, pc := pc + 3, locals := ls, stack := .ref T.heap.size :: rest, locked := none }) _
  jvm_step X₁.here [X₁.here.top, hexec, d3', Value.category]
  exact X₁.ldcStringW hexec (own := own) (text := text) (index := is) (a := sa) hown' hstr'.1 hstr'.2
    (g := { method := m, pc := pc + 4, locals := ls, stack := .ref T.heap.size :: .ref T.heap.size :: rest, locked := none }) rfl d4' _ hsteps
end Ends
section Bodies
variable {l : Launch}
theorem vx_ofW {y : MethodName} {ws ws' : List Cond} {rm : Room} {Pc : Array Value → State → Prop} {Qc : Array Value → State → Outcome → State → Prop} {XC : String → State → State → Prop} {mc ms : Nat} {free : Addr → Prop} {cc : ByteArray} {maxL : Nat} {ret : Option FieldType}
    (hy : plainName y.cls = true) (hw : ws = Cond.code y cc maxL ret :: ws')
    (body : ∀ p e s m args below meth c s₁, BodyLoose p l y (headSpec ws rm) cc maxL ret e s m args below meth c s₁ → c.maxLocals = maxL → (∀ x ∈ c.exceptionTable.toList, False) → Pc args s →
      W p l e (headSpec ws rm).room s m args below meth c s.heap [] 0 0 (vx_MQ below Qc XC args s mc ms free) (entryFrame m args maxL)) : vx_Met l y ws rm Pc Qc XC mc ms free := by
  refine MetFree.of_bodyS (code := cc) (maxLocals := maxL) (ret := ret) hy ?_ ?_
  · intro args s m h hn
    obtain ⟨meth, c, h1, h2, h3, h4, h5, h6, -, -⟩ := Cond.code_spec hn (atoms_spec (ws := ws) h _ (by rw [hw]; exact List.mem_cons_self))
    exact ⟨meth, c, h1, h2, h3, h4, h5, h6⟩
  · intro p e s m args below meth c s₁ B hml hP _
    have hh0 : s₁.heap = s.heap := by rw [B.state]; rfl
    have ht : ∀ x ∈ c.exceptionTable.toList, False := by
      obtain ⟨meth9, c9, h1, h2, -, -, -, -, h7, -⟩ := Cond.code_spec B.named (atoms_spec (ws := ws) B.pre _ (by rw [hw]; exact List.mem_cons_self))
      cases Option.some.inj (h1.symm.trans B.method)
      cases Option.some.inj (h2.symm.trans (Stand.of_body B).code)
      intro x hx
      rw [Array.isEmpty_iff.mp h7] at hx
      cases hx
    obtain ⟨t, a1, o, b1, b2, b3⟩ := body p e s m args below meth c s₁ B hml ht hP s₁ hh0 (Stand.of_body B)
    exact ⟨t, o, a1, b1, b2, b3⟩
/-- the table of a body with handlers -/
theorem vx_table {p : Program} {x y : MethodName} {S : Spec} {cc bytes : ByteArray} {maxL maxL' : Nat} {ret ret' : Option FieldType} {e : Env} {s s₁ : State} {m : MethodId} {args : Array Value} {below : List Frame} {meth : Method} {c : Code} {hh : List (Nat × Nat × Nat × Nat)}
    (B : BodyLoose p l y S cc maxL ret e s m args below meth c s₁) (h : (Cond.codeWith y bytes maxL' ret' hh).before args s = true) : c.exceptionTable.toList = tableOf hh := by
  obtain ⟨m9, meth9, c9, hn9, h1, h2, -, -, h6, -⟩ := Cond.codeWith_spec h
  cases Option.some.inj (hn9.symm.trans B.named)
  cases Option.some.inj (h1.symm.trans B.method)
  cases Option.some.inj (h2.symm.trans (Stand.of_body B).code)
  rw [← h6, table_eq]
end Bodies
end VXA
/-! ===== END ===== -/
/-! ===== BEGIN a static call of a method with an exception table ===== -/
section VXS
variable {p : Program} {l : Launch} {e : Env} {R : Room} {s : State} {m : MethodId} {args : Array Value} {below : List Frame} {meth : Method} {c : Code} {T : State} {H : Heap} {locs : List Loc} {cells slots : Nat}
abbrev vx_CSW (R : Room) (s : State) (args : Array Value) (own : String) (index : Nat) (y : MethodName) (bytes : ByteArray) (maxL : Nat) (ret : Option FieldType) (hh : List (Nat × Nat × Nat × Nat)) (ws : List Cond) (rm : Room) (mc ms n : Nat) : Prop :=
  (rm.cells = mc ∧ rm.slots = ms ∧ rm.frames + 1 ≤ R.frames ∧ 8 + (maxL + 11) + rm.locals ≤ R.locals ∧ (∀ w ∈ ws, ∀ (a' : Array Value) (U : State), s.WarmedH U.vm → w.before a' U = true) ∧ Cond.codeWith y bytes maxL ret hh ∈ ws) ∧
  (Cond.codeWith y bytes maxL ret hh).before args s = true ∧ (Cond.initialized y.cls).before args s = true ∧ (y.cls ≠ "java/lang/invoke/MethodHandle" ∧ y.cls ≠ "java/lang/invoke/VarHandle") ∧
  (∀ sig, parseMethodDescriptor y.desc = some sig → n = sig.parameters.length) ∧ (Cond.methodLink own index y).before args s = true ∧ (Cond.static y).before args s = true
theorem vx_cwSW {own : String} {index maxL mc ms : Nat} {y : MethodName} {bytes : ByteArray} {ret : Option FieldType} {hh : List (Nat × Nat × Nat × Nat)} {Ts ws ws' : List Cond} {rm : Room} (n : Nat) (ht : ∀ w ∈ Ts, w.before args s = true) (hT : GoodIn Ts (va_wsS own index y ws)) (hw : ws = Cond.codeWith y bytes maxL ret hh :: ws') (hrc : rm.cells = mc) (hrs : rm.slots = ms)
    (hd : y.cls ≠ "java/lang/invoke/MethodHandle" ∧ y.cls ≠ "java/lang/invoke/VarHandle" ∧ (parseMethodDescriptor y.desc).map (fun d => d.parameters.length) = some n) (hR : rm.frames + 1 ≤ R.frames ∧ 8 + (maxL + 11) + rm.locals ≤ R.locals) :
    vx_CSW R s args own index y bytes maxL ret hh ws rm mc ms n := by
  have ok : ∀ w ∈ va_wsS own index y ws, w.before args s = true := fun w h => ht w (hT w h).1
  have hG : GoodIn Ts ws := fun w h => hT w (by unfold va_wsS; exact List.mem_append_right _ h)
  have hc : Cond.codeWith y bytes maxL ret hh ∈ ws := by rw [hw]; exact List.mem_cons_self
  refine ⟨⟨hrc, hrs, hR.1, hR.2, pay_in ht hG, hc⟩, ht _ (hG _ hc).1, ok _ (by simp [va_wsS]), ⟨hd.1, hd.2.1⟩, fun sig h => ?_, ok _ (by simp [va_wsS]), ok _ (by simp [va_wsS])⟩
  have h2 := hd.2.2
  rw [h] at h2
  exact (Option.some.inj h2).symm
theorem vx_callSW (X : Stand p l e R s m args below meth c T locs cells slots) (hexec : p.tables.exec = Jvm.exec) {own : String} {index : Nat} {y : MethodName} {bytes : ByteArray} {maxL : Nat} {ret : Option FieldType} {hh : List (Nat × Nat × Nat × Nat)}
    (hown : s.vm.findClass own = some m.cls) (hlink : (Cond.methodLink own index y).before args s = true) (hstat : (Cond.static y).before args s = true) (hinit : (Cond.initialized y.cls).before args s = true)
    (hcode : (Cond.codeWith y bytes maxL ret hh).before args s = true) (hy : y.cls ≠ "java/lang/invoke/MethodHandle" ∧ y.cls ≠ "java/lang/invoke/VarHandle")
    {W9 : Nat} {Pre : Pt → Array Value → Prop} {Post : Pt → Array Value → Option Value → Pt → Prop} (hK : Back l R p e below s args y 3 W9 Pre Post)
    {g : JFrame} (hg : g.method = m) (hsize : g.locals.size = c.maxLocals) {argsL rest : List Value} (hlen : ∀ sig, parseMethodDescriptor y.desc = some sig → argsL.length = sig.parameters.length)
    (hstack : g.stack = argsL.reverse ++ rest) (hW : 2 * g.monitorRoom + (rest.map fun v => v.category).sum ≤ W9) (hdg : decode c.code g.pc = .ok (.invokestatic index, 3))
    (hpre : ∀ vm₁, s.WarmedH vm₁ → Pre ⟨T.setVm vm₁, locs, cells, slots⟩ argsL.toArray) :
    ∃ (v : Option Value) (vm₁ : Vm) (B : Pt), s.WarmedH vm₁ ∧ Stand p l e R s m args below meth c B.U B.locs B.cells B.slots ∧ Post ⟨T.setVm vm₁, locs, cells, slots⟩ argsL.toArray v B ∧
      ∀ target, Steps p.tables e below (B.U.setTop { g with pc := g.pc + 3, stack := v.toList ++ rest }) target → Steps p.tables e below (T.setTop g) target := by
  obtain ⟨mk, methM, cM, hnamed, hmethM, -, -, -, -, -, -, hsigM⟩ := Cond.codeWith_spec hcode
  have hstatic : methM.isStatic = true := Cond.static_spec hnamed hmethM hstat
  obtain ⟨kP, hkP, -⟩ := className_of_methodNamed hnamed
  have hinitP : kP.init = .initialized := Cond.initialized_spec (findClass_of_methodNamed hnamed) hkP hinit
  obtain ⟨vm₁, X₁, hstep₁⟩ := X.invokestatic hexec hown hlink hnamed hmethM hstatic hkP hinitP hy (g := g) hg (argsL := argsL) (rest := rest) (hlen _ hsigM) hstack hdg
  obtain ⟨v, B, X', hpost, hsteps⟩ := hK m meth c ⟨T.setVm vm₁, locs, cells, slots⟩ { g with stack := rest } (.invokestatic index) mk argsL.toArray X₁ hg hsize hdg hW (X₁.named hnamed) (hpre vm₁ X₁.warmed)
  exact ⟨v, vm₁, B, X₁.warmed, X', hpost, fun target h => hstep₁ _ fun acts => by rw [doInvoke_state]; exact hsteps.trans h⟩
theorem vx_runSW {y : MethodName} {bytes cc : ByteArray} {maxL nL mc ms n index : Nat} {ret : Option FieldType} {hh : List (Nat × Nat × Nat × Nat)} {ws : List Cond} {rm : Room} {Pc : Array Value → State → Prop} {Qc : Array Value → State → Outcome → State → Prop} {free : Addr → Prop} {Ts : List Cond} {own : String} {As rest : List Value} {g : JFrame}
    (S : CallFix p m c cc nL s args Ts own) (hM : Met l y ws rm Pc Qc mc ms free) (cw : vx_CSW R s args own index y bytes maxL ret hh ws rm mc ms n) (hp : PreS s H Pc As)
    (hg : g.method = m) (hn : As.length = n) (hsize : g.locals.size = nL) (hstack : g.stack = As.reverse ++ rest) (hW : 2 * g.monitorRoom + (rest.map fun v => v.category).sum ≤ 8) (hdg : decode cc g.pc = .ok (.invokestatic index, 3)) (hf : cells + mc ≤ R.cells ∧ slots + ms ≤ R.slots) :
    va_Run p l e R s m args below meth c H locs cells slots mc ms g rest (Qc As.toArray) (free) := by
  obtain ⟨⟨hrc, hrs, hfr, hlo, hws, hcw⟩, hcode, hini, hy, hlen, hl, hstt⟩ := cw
  have hK : Back l R p e below s args y 3 8 (PreOf R mc ms Pc) (PostOf Qc mc ms free) := va_backW (hh := hh) (bytes := bytes) (maxL := maxL) (ret := ret) hM hp.1 hrc hrs hfr hlo hws hcw (fun a' U hW => word_at hW (Or.inl (by first | rfl | simp [Cond.onTables, Cond.keeps, Cond.steady])) hini)
  obtain ⟨hx, hb, hml, ho, -⟩ := S
  intro T hT X
  obtain ⟨v, vm₁, ⟨U', l2, c2, s2⟩, hW₁, X', ⟨g', mk, t, L, e1, e2, hq, h1, hL, h2, h3⟩, st⟩ := vx_callSW X hx (hh := hh) (bytes := bytes) (maxL := maxL) (ret := ret) ho hl hstt hini hcode hy hK hg (hsize.trans hml.symm) (argsL := As) (rest := rest) (fun sig h => hn.trans (hlen sig h)) hstack hW (by rw [hb]; exact hdg)
    (fun vm₁ hW₁ => ⟨hf.1, hf.2, hp.2 (T.setVm vm₁) hT hW₁⟩)
  dsimp only [Pt.U, Pt.locs, Pt.cells, Pt.slots] at X' e1 e2 h1 h2 h3 st
  subst h1; subst h2; subst h3
  exact ⟨v, (T.setVm vm₁).calling g' mk As.toArray, t, U', L, hT, X', hL, e1, e2, hq, st⟩
/-- not caught here, past rows that name other classes: it goes on to the caller -/
theorem vx_outP {p : Program} {l : Launch} {e : Env} {R : Room} {s : State} {m : MethodId} {args : Array Value} {below : List Frame} {meth : Method} {c : Code} {H : Heap} {locs : List Loc} {cells slots : Nat} {free : Addr → Prop} {ls : Array Slot} {rest : List Value} {Qc : Array Value → State → Outcome → State → Prop} {XC : String → State → State → Prop}
    {pc : Nat} {own E : String} {ce : Cell} {q : Addr} {mc ms : Nat} (hown : s.vm.findClass own = some m.cls) (hlocks : meth.locks = false)
    (hpass : ∀ z ∈ c.exceptionTable.toList, covers z pc = false ∨ (z.catchType ≠ 0 ∧ ∃ nm : String, (Cond.classLink own z.catchType nm).before args s = true ∧ va_Nc E nm s)) (hcell : H[q]? = some ce) (hv : ce.vm = .none) (hcl : s.vm.findClass E = some ce.cls)
    (hx : ∀ t : State, t.heap = H → s.vm.Alike t.vm → XC E s t) (hf : ∀ z ∈ locs, free z.base) (hc : cells ≤ mc) (hs : slots ≤ ms) :
    vx_W p l e R s m args below meth c H locs cells slots (vx_MQ below Qc XC args s mc ms free) (F0 m pc ls rest) q := by
  intro T hT X
  have hpl : e.platform.magicAccessors = ({} : Platform).magicAccessors := by rw [X.admits.platform]
  obtain ⟨vm', hW', X', st⟩ := X.outThrough hlocks q (g := F0 m pc ls rest) rfl rfl rfl (cell := ce) (by rw [hT]; exact hcell) (by rw [hv]; rfl)
    (by obtain ⟨k9, h9, -⟩ := Vm.findClass_spec hcl; exact ⟨k9, h9⟩) (fun z hz => by
      rcases hpass z hz with h | ⟨hz0, nm, hl1, hn1⟩
      · exact Or.inl h
      · obtain ⟨c6, hc6, hcl6⟩ := Cond.classLink_spec hown hl1 e.platform hpl
        obtain ⟨a8, b8, h1, h2, h3⟩ := hn1
        cases Option.some.inj (h1.symm.trans hcl)
        cases Option.some.inj (h2.symm.trans hc6)
        exact Or.inr ⟨hz0, _, hcl6, h3⟩)
  obtain ⟨g₀, hfr⟩ := X'.frames_eq
  have hcell9 : ((T.setVm vm').setFrames (.throwing q :: below)).heap[q]? = some ce := by
    show T.heap[q]? = some ce
    rw [hT]; exact hcell
  have hend : Ended ((T.setVm vm').setFrames (.throwing q :: below)) below (.threw q) := State.frames_setFrames _ (State.cur_lt_of_frames hfr)
  refine ⟨(T.setVm vm').setFrames (.throwing q :: below), ?_, .threw q, X'.here.running, hend, Or.inr ⟨q, rfl, E, ce, locs, hx _ hT (X'.ends _).1.alike, hcell9, hv, hcl, (X'.ends _).1, (X'.ends _).2.mono hc hs, hf⟩⟩
  rw [X.pushThrowing_eq]
  exact st
/-- a thing of a world lies in the heap -/
theorem vx_lt {D : va_G} {cl : List vw_C} {ws : va_W} {H1 : Heap} (h : va_P D cl ws H1) {k : Nat} {q : Nat × va_E} (hk : ws[k]? = some q) : q.1 < H1.size := (h k q hk).lt
end VXS
/-! ===== END ===== -/
/-! ===== BEGIN methods with a table of their own: called by a name, returning or throwing ===== -/
section VXH
/-! vx_backW, vx_callVX, vx_callSX, vx_callVW, vx_runVW, vx_runVX, vx_runSX, vx_ofWH follow the same proofs as their sisters above (Free/Laws.lean, Shelf42/LK1.lean); vx_outP calls Shelf42/NT130.lean (outThrough). -/
section
variable {l : Launch} {R : Room} {p : Program} {e : Env} {below : List Frame} {s : State} {sargs : Array Value} {y : MethodName} {len W9 : Nat}
theorem vx_backW {ws : List Cond} {rm : Room} {Pc : Array Value → State → Prop} {Qc : Array Value → State → Outcome → State → Prop} {XC : String → State → State → Prop} {mc ms : Nat} {free : Addr → Prop} {bytes : ByteArray} {maxL : Nat} {ret : Option FieldType} {hh : List (Nat × Nat × Nat × Nat)}
    (hM : vx_Met l y ws rm Pc Qc XC mc ms free) (hblind : FrameBlind Pc) (hrc : rm.cells = mc) (hrs : rm.slots = ms)
    (hframes : rm.frames + 1 ≤ R.frames) (hlocals : W9 + (maxL + 11) + rm.locals ≤ R.locals)
    (hws : ∀ w ∈ ws, ∀ a' U, s.WarmedH U.vm → w.before a' U = true) (hcode : Cond.codeWith y bytes maxL ret hh ∈ ws) (hinit : ∀ a' U, s.WarmedH U.vm → (Cond.initialized y.cls).before a' U = true) :
    vx_Back l R p e below s sargs y len W9 (PreOf R mc ms Pc) (PostOf Qc mc ms free) (vx_Post XC mc ms free) := by
  intro m meth c A g ig mk a X hg hsize hdg hW hn hp
  have h1 : (headSpec ws rm).pre.before a A.U = true := atoms_intro fun w hw => hws w hw _ _ X.warmed
  have h2 : (Cond.codeWith y bytes maxL ret hh).before a A.U = true := hws _ hcode _ _ X.warmed
  have h3 : (Cond.initialized y.cls).before a A.U = true := hinit _ _ X.warmed
  have h4 : A.cells + (headSpec ws rm).room.cells ≤ R.cells := by rw [show (headSpec ws rm).room.cells = mc from hrc]; exact hp.1
  have h5 : A.slots + (headSpec ws rm).room.slots ≤ R.slots := by rw [show (headSpec ws rm).room.slots = ms from hrs]; exact hp.2.1
  have hPc : Pc a (A.U.calling g mk a) := hblind _ _ _ _ hp.2.2
  obtain ⟨U, Ls, c0, s0⟩ := A
  dsimp only [Pt.U, Pt.locs, Pt.cells, Pt.slots] at h1 h2 h3 h4 h5 X hn hPc ⊢
  obtain ⟨m9, methY, cY, hn9, hmY, hcY, -, hlY, -⟩ := Cond.codeWith_spec h2
  cases Option.some.inj (hn9.symm.trans hn)
  obtain ⟨kY, hkY, -⟩ := className_of_methodNamed hn
  have hinitY : kY.init = .initialized := Cond.initialized_spec (findClass_of_methodNamed hn) hkY h3
  have h : At U g.method c below := by rw [hg]; exact X.here
  have hlocals9 : W9 + (maxL + 11) + (headSpec ws rm).room.locals ≤ R.locals := hlocals
  have happ : (headSpec ws rm).appliesLoose y e.platform (U.calling g mk a) = true :=
    Spec.appliesLoose_calling (g := g) h hdg hn hkY hinitY
      (X.room_calling (g := g) (R' := (headSpec ws rm).room) hsize hmY hcY hframes (by rw [hlY]; omega) h4 h5) h1
  obtain ⟨mid, hmid⟩ := h.above
  have hfr : (U.setTop g).frames = (.java g :: mid) ++ below := by rw [State.frames_setTop' g h.top, hmid]; rfl
  obtain ⟨o, s₂, hsteps, -, hend, hq⟩ := Steps.callFree hM p X.admits X.cas X.clock (acts := []) hfr happ hPc trivial
  have hq' : vx_Q Qc XC mc ms free a (U.calling g mk a) o s₂ := hq
  rw [State.frames_setTop' g h.top] at hend
  obtain ⟨g₀, hg0⟩ := Option.isSome_iff_exists.mp h.top
  obtain ⟨r, hr⟩ := State.topJava?_eq_some.mp hg0
  have hr' : (({ U with heap := s₂.heap, slotsUsed := s₂.slotsUsed } : State).setVm s₂.vm).frames = .java g₀ :: r := hr
  rcases hq' with ⟨hqc, L, hfe, hL⟩ | ⟨q, rfl, E, ce, L, hx, hce, hcv, hcl, hW₂, hsm, hL⟩
  · obtain ⟨⟨v, rfl⟩, hW₂, e2, q2, q3, q4, q5, q6⟩ := id hfe
    have e3 : s₂ = ({ (U.calling g mk a).setFrames s₂.frames with heap := s₂.heap, slotsUsed := s₂.slotsUsed } : State).setVm s₂.vm := by
      have : s₂ = ({ s₂ with vm := (U.calling g mk a).vm } : State).setVm s₂.vm := rfl
      rw [e2] at this
      exact this
    obtain ⟨c₂, i₂, len₂, hc₂, hd₂, hf₂⟩ := hend
    have hW' : U.WarmedH s₂.vm := hW₂
    have hcc : c₂ = c := by
      have h1 : s₂.code? g.method = U.code? g.method := by
        rw [State.code?_eq, State.code?_eq, hW'.alike.method?]
      exact Option.some.inj (hc₂.symm.trans (h1.trans h.code))
    subst hcc
    have hlen : len₂ = len := by rw [hdg] at hd₂; cases hd₂; rfl
    subst hlen
    have hs₂ : s₂ = (({ U with heap := s₂.heap, slotsUsed := s₂.slotsUsed } : State).setVm s₂.vm).setTop { g with pc := g.pc + len₂, stack := v.toList ++ g.stack } := by
      refine e3.trans ?_
      rw [hf₂, State.calling_eq h.top, State.setFrames_setFrames, State.setTop_of_frames _ hr', hr]
      rfl
    have hsame : U.sameButNew ({ U with heap := s₂.heap, slotsUsed := s₂.slotsUsed } : State) L mc ms := by
      refine ⟨?_, q2, q3, q4, q5, q6⟩
      obtain ⟨t, ht, -⟩ := State.frames_cons hr
      show ({ U with heap := s₂.heap, slotsUsed := s₂.slotsUsed } : State) = { U.setFrames U.frames with heap := s₂.heap, slotsUsed := s₂.slotsUsed }
      rw [State.setFrames_self ht]
    subst hg
    refine Or.inl ⟨v, ⟨(({ U with heap := s₂.heap, slotsUsed := s₂.slotsUsed } : State).setVm s₂.vm), Ls ++ L, c0 + mc, s0 + ms⟩,
      ⟨X.admits, X.cas, X.clock, X.frames, X.room, X.hears, X.method, X.code, (X.here.setHeapUsed s₂.heap s₂.slotsUsed).setVm hW'.alike, X.tail, State.WarmedH.trans X.warmed hW', X.limits, X.bytes, X.same.trans (hsame.setVm s.vm)⟩,
      ⟨g, mk, s₂, L, rfl, rfl, hqc, rfl, hL, rfl, rfl⟩, ?_⟩
    show Steps p.tables e below _ ((({ U with heap := s₂.heap, slotsUsed := s₂.slotsUsed } : State).setVm s₂.vm).setTop { g with pc := g.pc + len₂, stack := v.toList ++ g.stack })
    rw [← hs₂]
    exact hsteps
  · obtain ⟨e2, q2, q3, q4, q5, q6⟩ := id hsm
    have e3 : s₂ = ({ (U.calling g mk a).setFrames s₂.frames with heap := s₂.heap, slotsUsed := s₂.slotsUsed } : State).setVm s₂.vm := by
      have : s₂ = ({ s₂ with vm := (U.calling g mk a).vm } : State).setVm s₂.vm := rfl
      rw [e2] at this
      exact this
    have hf₂ : s₂.frames = .throwing q :: .java g :: U.frames.tail := hend
    have hW' : U.WarmedH s₂.vm := hW₂
    have hs₂ : s₂ = ((({ U with heap := s₂.heap, slotsUsed := s₂.slotsUsed } : State).setVm s₂.vm).setTop g).pushFrame (.throwing q) := by
      refine e3.trans ?_
      rw [hf₂, State.calling_eq h.top, State.setFrames_setFrames, State.pushFrame, State.frames_setTop _ hr', State.setTop_of_frames _ hr', State.setFrames_setFrames, hr]
      rfl
    have hsame : U.sameButNew ({ U with heap := s₂.heap, slotsUsed := s₂.slotsUsed } : State) L mc ms := by
      refine ⟨?_, q2, q3, q4, q5, q6⟩
      obtain ⟨t, ht, -⟩ := State.frames_cons hr
      show ({ U with heap := s₂.heap, slotsUsed := s₂.slotsUsed } : State) = { U.setFrames U.frames with heap := s₂.heap, slotsUsed := s₂.slotsUsed }
      rw [State.setFrames_self ht]
    subst hg
    refine Or.inr ⟨q, ⟨(({ U with heap := s₂.heap, slotsUsed := s₂.slotsUsed } : State).setVm s₂.vm), Ls ++ L, c0 + mc, s0 + ms⟩,
      ⟨X.admits, X.cas, X.clock, X.frames, X.room, X.hears, X.method, X.code, (X.here.setHeapUsed s₂.heap s₂.slotsUsed).setVm hW'.alike, X.tail, State.WarmedH.trans X.warmed hW', X.limits, X.bytes, X.same.trans (hsame.setVm s.vm)⟩,
      ⟨g, mk, s₂, L, E, ce, rfl, rfl, hx, hce, hcv, hcl, rfl, hL, rfl, rfl⟩, ?_⟩
    show Steps p.tables e below _ (((({ U with heap := s₂.heap, slotsUsed := s₂.slotsUsed } : State).setVm s₂.vm).setTop g).pushFrame (.throwing q))
    rw [← hs₂]
    exact hsteps
end
variable {p : Program} {l : Launch} {e : Env} {R : Room} {s : State} {m : MethodId} {args : Array Value} {below : List Frame} {meth : Method} {c : Code} {T : State} {H : Heap} {locs : List Loc} {cells slots : Nat}
theorem vx_callVX (X : Stand p l e R s m args below meth c T locs cells slots) (hexec : p.tables.exec = Jvm.exec) {own C : String} {index : Nat} {y : MethodName} {bytes : ByteArray} {maxL : Nat} {ret : Option FieldType} {hh : List (Nat × Nat × Nat × Nat)}
    (hown : s.vm.findClass own = some m.cls) (hlink : (Cond.methodLink own index y).before args s = true) (hinst : (Cond.instanceMethod y).before args s = true) (hsel : (Cond.selects C y y).before args s = true)
    (hcode : (Cond.codeWith y bytes maxL ret hh).before args s = true) (hy : y.cls ≠ "java/lang/invoke/MethodHandle" ∧ y.cls ≠ "java/lang/invoke/VarHandle")
    {W9 : Nat} {Pre : Pt → Array Value → Prop} {Post : Pt → Array Value → Option Value → Pt → Prop} {PostX : Pt → Array Value → Addr → Pt → Prop} (hK : vx_Back l R p e below s args y 3 W9 Pre Post PostX)
    {b : Addr} {cellB : Cell} (hcell : T.heap[b]? = some cellB) (hobj : cellB.vm.isStatics = false) (hcls : s.vm.findClass C = some cellB.cls)
    {g : JFrame} (hg : g.method = m) (hsize : g.locals.size = c.maxLocals) {argsL rest : List Value} (hlen : ∀ sig, parseMethodDescriptor y.desc = some sig → argsL.length = sig.parameters.length)
    (hstack : g.stack = argsL.reverse ++ .ref b :: rest) (hW : 2 * g.monitorRoom + (rest.map fun v => v.category).sum ≤ W9) (hdg : decode c.code g.pc = .ok (.invokevirtual index, 3))
    (hpre : ∀ vm₁, s.WarmedH vm₁ → Pre ⟨T.setVm vm₁, locs, cells, slots⟩ (Value.ref b :: argsL).toArray) :
    (∃ (v : Option Value) (vm₁ : Vm) (B : Pt), s.WarmedH vm₁ ∧ Stand p l e R s m args below meth c B.U B.locs B.cells B.slots ∧ Post ⟨T.setVm vm₁, locs, cells, slots⟩ (Value.ref b :: argsL).toArray v B ∧
      ∀ target, Steps p.tables e below (B.U.setTop { g with pc := g.pc + 3, stack := v.toList ++ rest }) target → Steps p.tables e below (T.setTop g) target) ∨
    (∃ (q : Addr) (vm₁ : Vm) (B : Pt), s.WarmedH vm₁ ∧ Stand p l e R s m args below meth c B.U B.locs B.cells B.slots ∧ PostX ⟨T.setVm vm₁, locs, cells, slots⟩ (Value.ref b :: argsL).toArray q B ∧
      Steps p.tables e below (T.setTop g) ((B.U.setTop { g with stack := rest }).pushFrame (.throwing q))) := by
  obtain ⟨mk, methM, hnamed, hmethM, hstM, habM⟩ := Cond.instanceMethod_spec hinst
  obtain ⟨m8, methM', cM, hn8, hmethM', -, -, -, -, -, -, hsigM⟩ := Cond.codeWith_spec hcode
  cases Option.some.inj (hn8.symm.trans hnamed)
  cases hmethM.symm.trans hmethM'
  obtain ⟨c2, r2, m2, q1, q2, q3, q4, kP, hkP, hkPi⟩ := Cond.selects_spec hsel
  cases hcls.symm.trans q1
  cases (State.methodFound?_of_named hnamed hy).symm.trans q2
  cases hnamed.symm.trans q3
  have hselP : selectMethod e.platform s.vm cellB.cls mk = .method mk := by rw [Launch.admits_selectMethod X.admits]; exact q4
  obtain ⟨vm₁, X₁, hstep₁⟩ := X.invokevirtual hexec hown hlink hnamed hmethM hstM hkP hkPi hy (a := b) (cell := cellB) hcell
    (fun z h => by rw [h] at hobj; cases hobj) hselP hmethM habM hkP hkPi (g := g) hg (argsL := argsL) (rest := rest) (hlen _ hsigM) hstack hdg
  rcases hK m meth c ⟨T.setVm vm₁, locs, cells, slots⟩ { g with stack := rest } (.invokevirtual index) mk (Value.ref b :: argsL).toArray X₁ hg hsize hdg hW (X₁.named hnamed) (hpre vm₁ X₁.warmed) with ⟨v, B, X', hpost, hsteps⟩ | ⟨q, B, X', hpost, hsteps⟩
  · exact Or.inl ⟨v, vm₁, B, X₁.warmed, X', hpost, fun target h => hstep₁ _ fun acts => by rw [doInvoke_state]; exact hsteps.trans h⟩
  · exact Or.inr ⟨q, vm₁, B, X₁.warmed, X', hpost, hstep₁ _ fun acts => by rw [doInvoke_state]; exact hsteps⟩
theorem vx_callSX (X : Stand p l e R s m args below meth c T locs cells slots) (hexec : p.tables.exec = Jvm.exec) {own : String} {index : Nat} {y : MethodName} {bytes : ByteArray} {maxL : Nat} {ret : Option FieldType} {hh : List (Nat × Nat × Nat × Nat)}
    (hown : s.vm.findClass own = some m.cls) (hlink : (Cond.methodLink own index y).before args s = true) (hstat : (Cond.static y).before args s = true) (hinit : (Cond.initialized y.cls).before args s = true)
    (hcode : (Cond.codeWith y bytes maxL ret hh).before args s = true) (hy : y.cls ≠ "java/lang/invoke/MethodHandle" ∧ y.cls ≠ "java/lang/invoke/VarHandle")
    {W9 : Nat} {Pre : Pt → Array Value → Prop} {Post : Pt → Array Value → Option Value → Pt → Prop} {PostX : Pt → Array Value → Addr → Pt → Prop} (hK : vx_Back l R p e below s args y 3 W9 Pre Post PostX)
    {g : JFrame} (hg : g.method = m) (hsize : g.locals.size = c.maxLocals) {argsL rest : List Value} (hlen : ∀ sig, parseMethodDescriptor y.desc = some sig → argsL.length = sig.parameters.length)
    (hstack : g.stack = argsL.reverse ++ rest) (hW : 2 * g.monitorRoom + (rest.map fun v => v.category).sum ≤ W9) (hdg : decode c.code g.pc = .ok (.invokestatic index, 3))
    (hpre : ∀ vm₁, s.WarmedH vm₁ → Pre ⟨T.setVm vm₁, locs, cells, slots⟩ argsL.toArray) :
    (∃ (v : Option Value) (vm₁ : Vm) (B : Pt), s.WarmedH vm₁ ∧ Stand p l e R s m args below meth c B.U B.locs B.cells B.slots ∧ Post ⟨T.setVm vm₁, locs, cells, slots⟩ argsL.toArray v B ∧
      ∀ target, Steps p.tables e below (B.U.setTop { g with pc := g.pc + 3, stack := v.toList ++ rest }) target → Steps p.tables e below (T.setTop g) target) ∨
    (∃ (q : Addr) (vm₁ : Vm) (B : Pt), s.WarmedH vm₁ ∧ Stand p l e R s m args below meth c B.U B.locs B.cells B.slots ∧ PostX ⟨T.setVm vm₁, locs, cells, slots⟩ argsL.toArray q B ∧
      Steps p.tables e below (T.setTop g) ((B.U.setTop { g with stack := rest }).pushFrame (.throwing q))) := by
  obtain ⟨mk, methM, cM, hnamed, hmethM, -, -, -, -, -, -, hsigM⟩ := Cond.codeWith_spec hcode
  have hstatic : methM.isStatic = true := Cond.static_spec hnamed hmethM hstat
  obtain ⟨kP, hkP, -⟩ := className_of_methodNamed hnamed
  have hinitP : kP.init = .initialized := Cond.initialized_spec (findClass_of_methodNamed hnamed) hkP hinit
  obtain ⟨vm₁, X₁, hstep₁⟩ := X.invokestatic hexec hown hlink hnamed hmethM hstatic hkP hinitP hy (g := g) hg (argsL := argsL) (rest := rest) (hlen _ hsigM) hstack hdg
  rcases hK m meth c ⟨T.setVm vm₁, locs, cells, slots⟩ { g with stack := rest } (.invokestatic index) mk argsL.toArray X₁ hg hsize hdg hW (X₁.named hnamed) (hpre vm₁ X₁.warmed) with ⟨v, B, X', hpost, hsteps⟩ | ⟨q, B, X', hpost, hsteps⟩
  · exact Or.inl ⟨v, vm₁, B, X₁.warmed, X', hpost, fun target h => hstep₁ _ fun acts => by rw [doInvoke_state]; exact hsteps.trans h⟩
  · exact Or.inr ⟨q, vm₁, B, X₁.warmed, X', hpost, hstep₁ _ fun acts => by rw [doInvoke_state]; exact hsteps⟩
theorem vx_callVW (X : Stand p l e R s m args below meth c T locs cells slots) (hexec : p.tables.exec = Jvm.exec) {own C : String} {index : Nat} {y : MethodName} {bytes : ByteArray} {maxL : Nat} {ret : Option FieldType} {hh : List (Nat × Nat × Nat × Nat)}
    (hown : s.vm.findClass own = some m.cls) (hlink : (Cond.methodLink own index y).before args s = true) (hinst : (Cond.instanceMethod y).before args s = true) (hsel : (Cond.selects C y y).before args s = true)
    (hcode : (Cond.codeWith y bytes maxL ret hh).before args s = true) (hy : y.cls ≠ "java/lang/invoke/MethodHandle" ∧ y.cls ≠ "java/lang/invoke/VarHandle")
    {W9 : Nat} {Pre : Pt → Array Value → Prop} {Post : Pt → Array Value → Option Value → Pt → Prop} (hK : Back l R p e below s args y 3 W9 Pre Post)
    {b : Addr} {cellB : Cell} (hcell : T.heap[b]? = some cellB) (hobj : cellB.vm.isStatics = false) (hcls : s.vm.findClass C = some cellB.cls)
    {g : JFrame} (hg : g.method = m) (hsize : g.locals.size = c.maxLocals) {argsL rest : List Value} (hlen : ∀ sig, parseMethodDescriptor y.desc = some sig → argsL.length = sig.parameters.length)
    (hstack : g.stack = argsL.reverse ++ .ref b :: rest) (hW : 2 * g.monitorRoom + (rest.map fun v => v.category).sum ≤ W9) (hdg : decode c.code g.pc = .ok (.invokevirtual index, 3))
    (hpre : ∀ vm₁, s.WarmedH vm₁ → Pre ⟨T.setVm vm₁, locs, cells, slots⟩ (Value.ref b :: argsL).toArray) :
    ∃ (v : Option Value) (vm₁ : Vm) (B : Pt), s.WarmedH vm₁ ∧ Stand p l e R s m args below meth c B.U B.locs B.cells B.slots ∧ Post ⟨T.setVm vm₁, locs, cells, slots⟩ (Value.ref b :: argsL).toArray v B ∧
      ∀ target, Steps p.tables e below (B.U.setTop { g with pc := g.pc + 3, stack := v.toList ++ rest }) target → Steps p.tables e below (T.setTop g) target := by
  obtain ⟨mk, methM, hnamed, hmethM, hstM, habM⟩ := Cond.instanceMethod_spec hinst
  obtain ⟨m8, methM', cM, hn8, hmethM', -, -, -, -, -, -, hsigM⟩ := Cond.codeWith_spec hcode
  cases Option.some.inj (hn8.symm.trans hnamed)
  cases hmethM.symm.trans hmethM'
  obtain ⟨c2, r2, m2, q1, q2, q3, q4, kP, hkP, hkPi⟩ := Cond.selects_spec hsel
  cases hcls.symm.trans q1
  cases (State.methodFound?_of_named hnamed hy).symm.trans q2
  cases hnamed.symm.trans q3
  have hselP : selectMethod e.platform s.vm cellB.cls mk = .method mk := by rw [Launch.admits_selectMethod X.admits]; exact q4
  obtain ⟨vm₁, X₁, hstep₁⟩ := X.invokevirtual hexec hown hlink hnamed hmethM hstM hkP hkPi hy (a := b) (cell := cellB) hcell
    (fun z h => by rw [h] at hobj; cases hobj) hselP hmethM habM hkP hkPi (g := g) hg (argsL := argsL) (rest := rest) (hlen _ hsigM) hstack hdg
  obtain ⟨v, B, X', hpost, hsteps⟩ := hK m meth c ⟨T.setVm vm₁, locs, cells, slots⟩ { g with stack := rest } (.invokevirtual index) mk (Value.ref b :: argsL).toArray X₁ hg hsize hdg hW (X₁.named hnamed) (hpre vm₁ X₁.warmed)
  exact ⟨v, vm₁, B, X₁.warmed, X', hpost, fun target h => hstep₁ _ fun acts => by rw [doInvoke_state]; exact hsteps.trans h⟩
abbrev vx_CVW (R : Room) (s : State) (args : Array Value) (own C : String) (index : Nat) (y : MethodName) (bytes : ByteArray) (maxL : Nat) (ret : Option FieldType) (hh : List (Nat × Nat × Nat × Nat)) (ws : List Cond) (rm : Room) (mc ms n : Nat) : Prop :=
  (rm.cells = mc ∧ rm.slots = ms ∧ rm.frames + 1 ≤ R.frames ∧ 8 + (maxL + 11) + rm.locals ≤ R.locals ∧ (∀ w ∈ ws, ∀ (a' : Array Value) (U : State), s.WarmedH U.vm → w.before a' U = true) ∧ Cond.codeWith y bytes maxL ret hh ∈ ws) ∧
  (Cond.codeWith y bytes maxL ret hh).before args s = true ∧ (Cond.initialized y.cls).before args s = true ∧ (y.cls ≠ "java/lang/invoke/MethodHandle" ∧ y.cls ≠ "java/lang/invoke/VarHandle") ∧
  (∀ sig, parseMethodDescriptor y.desc = some sig → n = sig.parameters.length) ∧ (Cond.methodLink own index y).before args s = true ∧ (Cond.instanceMethod y).before args s = true ∧ (Cond.selects C y y).before args s = true
theorem vx_cwVW {own C : String} {index maxL mc ms : Nat} {y : MethodName} {bytes : ByteArray} {ret : Option FieldType} {hh : List (Nat × Nat × Nat × Nat)} {Ts ws ws' : List Cond} {rm : Room} (n : Nat) (ht : ∀ w ∈ Ts, w.before args s = true) (hT : GoodIn Ts (wsV own index C y ws)) (hw : ws = Cond.codeWith y bytes maxL ret hh :: ws') (hrc : rm.cells = mc) (hrs : rm.slots = ms)
    (hd : y.cls = C ∧ y.cls ≠ "java/lang/invoke/MethodHandle" ∧ y.cls ≠ "java/lang/invoke/VarHandle" ∧ (parseMethodDescriptor y.desc).map (fun d => d.parameters.length) = some n) (hR : rm.frames + 1 ≤ R.frames ∧ 8 + (maxL + 11) + rm.locals ≤ R.locals) :
    vx_CVW R s args own C index y bytes maxL ret hh ws rm mc ms n := by
  obtain ⟨hC, hd⟩ := hd
  subst hC
  have ok : ∀ w ∈ wsV own index y.cls y ws, w.before args s = true := fun w h => ht w (hT w h).1
  have hG : GoodIn Ts ws := fun w h => hT w (by unfold wsV; exact List.mem_append_right _ h)
  have hc : Cond.codeWith y bytes maxL ret hh ∈ ws := by rw [hw]; exact List.mem_cons_self
  refine ⟨⟨hrc, hrs, hR.1, hR.2, pay_in ht hG, hc⟩, ht _ (hG _ hc).1, ok _ (by simp [wsV]), ⟨hd.1, hd.2.1⟩, fun sig h => ?_, ok _ (by simp [wsV]), ok _ (by simp [wsV]), ok _ (by simp [wsV])⟩
  have h2 := hd.2.2
  rw [h] at h2
  exact (Option.some.inj h2).symm
theorem vx_runVW {y : MethodName} {bytes cc : ByteArray} {maxL nL mc ms n index : Nat} {ret : Option FieldType} {hh : List (Nat × Nat × Nat × Nat)} {ws : List Cond} {rm : Room} {Pc : Array Value → State → Prop} {Qc : Array Value → State → Outcome → State → Prop} {free : Addr → Prop} {Ts : List Cond} {own C : String} {b : Addr} {As rest : List Value} {g : JFrame}
    (S : CallFix p m c cc nL s args Ts own) (hM : Met l y ws rm Pc Qc mc ms free) (cw : vx_CVW R s args own C index y bytes maxL ret hh ws rm mc ms n) (hp : PreV s H C b Pc As)
    (hg : g.method = m) (hn : As.length = n) (hsize : g.locals.size = nL) (hstack : g.stack = As.reverse ++ .ref b :: rest) (hW : 2 * g.monitorRoom + (rest.map fun v => v.category).sum ≤ 8) (hdg : decode cc g.pc = .ok (.invokevirtual index, 3)) (hf : cells + mc ≤ R.cells ∧ slots + ms ≤ R.slots) :
    va_Run p l e R s m args below meth c H locs cells slots mc ms g rest (Qc (Value.ref b :: As).toArray) free := by
  obtain ⟨⟨hrc, hrs, hfr, hlo, hws, hcw⟩, hcode, hini, hy, hlen, hl, hin, hse⟩ := cw
  have hK : Back l R p e below s args y 3 8 (PreOf R mc ms Pc) (PostOf Qc mc ms free) := va_backW (hh := hh) (bytes := bytes) (maxL := maxL) (ret := ret) hM hp.1 hrc hrs hfr hlo hws hcw (fun a' U hW => word_at hW (Or.inl (by first | rfl | simp [Cond.onTables, Cond.keeps, Cond.steady])) hini)
  obtain ⟨hx, hb, hml, ho, -⟩ := S
  obtain ⟨-, ⟨cellB, hcB, hoB, hclB⟩, hPc⟩ := hp
  intro T hT X
  obtain ⟨v, vm₁, ⟨U', l2, c2, s2⟩, hW₁, X', ⟨g', mk, t, L, e1, e2, hq, h1, hL, h2, h3⟩, st⟩ := vx_callVW X hx (C := C) (hh := hh) (bytes := bytes) (maxL := maxL) (ret := ret) ho hl hin hse hcode hy hK (by rw [hT]; exact hcB) hoB hclB hg (hsize.trans hml.symm) (argsL := As) (rest := rest) (fun sig h => hn.trans (hlen sig h)) hstack hW (by rw [hb]; exact hdg)
    (fun vm₁ hW₁ => ⟨hf.1, hf.2, hPc (T.setVm vm₁) hT hW₁⟩)
  dsimp only [Pt.U, Pt.locs, Pt.cells, Pt.slots] at X' e1 e2 h1 h2 h3 st
  subst h1; subst h2; subst h3
  exact ⟨v, (T.setVm vm₁).calling g' mk (Value.ref b :: As).toArray, t, U', L, hT, X', hL, e1, e2, hq, st⟩
section
variable {y : MethodName} {bytes cc : ByteArray} {maxL nL mc ms n index : Nat} {ret : Option FieldType} {ws : List Cond} {rm : Room} {Pc : Array Value → State → Prop} {Qc : Array Value → State → Outcome → State → Prop} {XC : String → State → State → Prop} {free : Addr → Prop} {Ts : List Cond} {own C : String} {b : Addr} {As rest : List Value} {g : JFrame}
theorem vx_runVX {hh : List (Nat × Nat × Nat × Nat)} (S : CallFix p m c cc nL s args Ts own) (hM : vx_Met l y ws rm Pc Qc XC mc ms free) (cw : vx_CVW R s args own C index y bytes maxL ret hh ws rm mc ms n) (hp : PreV s H C b Pc As)
    (hg : g.method = m) (hn : As.length = n) (hsize : g.locals.size = nL) (hstack : g.stack = As.reverse ++ .ref b :: rest) (hW : 2 * g.monitorRoom + (rest.map fun v => v.category).sum ≤ 8) (hdg : decode cc g.pc = .ok (.invokevirtual index, 3)) (hf : cells + mc ≤ R.cells ∧ slots + ms ≤ R.slots) :
    vx_Run p l e R s m args below meth c H locs cells slots mc ms g rest (Qc (Value.ref b :: As).toArray) XC free := by
  obtain ⟨⟨hrc, hrs, hfr, hlo, hws, hcw⟩, hcode, hini, hy, hlen, hl, hin, hse⟩ := cw
  have hK : vx_Back l R p e below s args y 3 8 (PreOf R mc ms Pc) (PostOf Qc mc ms free) (vx_Post XC mc ms free) := vx_backW (hh := hh) (bytes := bytes) (maxL := maxL) (ret := ret) hM hp.1 hrc hrs hfr hlo hws hcw (fun a' U hW => word_at hW (Or.inl (by first | rfl | simp [Cond.onTables, Cond.keeps, Cond.steady])) hini)
  obtain ⟨hx, hb, hml, ho, -⟩ := S
  obtain ⟨-, ⟨cellB, hcB, hoB, hclB⟩, hPc⟩ := hp
  intro T hT X
  rcases vx_callVX X hx (C := C) (hh := hh) (bytes := bytes) (maxL := maxL) (ret := ret) ho hl hin hse hcode hy hK (by rw [hT]; exact hcB) hoB hclB hg (hsize.trans hml.symm) (argsL := As) (rest := rest) (fun sig h => hn.trans (hlen sig h)) hstack hW (by rw [hb]; exact hdg)
    (fun vm₁ hW₁ => ⟨hf.1, hf.2, hPc (T.setVm vm₁) hT hW₁⟩) with ⟨v, vm₁, ⟨U', l2, c2, s2⟩, hW₁, X', ⟨g', mk, t, L, e1, e2, hq, h1, hL, h2, h3⟩, st⟩ | ⟨q, vm₁, ⟨U', l2, c2, s2⟩, hW₁, X', ⟨g', mk, t, L, E, ce, e1, e2, hq, hce, hcv, hcl, h1, hL, h2, h3⟩, st⟩
  · dsimp only [Pt.U, Pt.locs, Pt.cells, Pt.slots] at X' e1 e2 h1 h2 h3 st
    subst h1; subst h2; subst h3
    exact Or.inl ⟨v, (T.setVm vm₁).calling g' mk (Value.ref b :: As).toArray, t, U', L, hT, X', hL, e1, e2, hq, st⟩
  · dsimp only [Pt.U, Pt.locs, Pt.cells, Pt.slots] at X' e1 e2 h1 h2 h3 st hcl
    subst h1; subst h2; subst h3
    exact Or.inr ⟨q, (T.setVm vm₁).calling g' mk (Value.ref b :: As).toArray, t, U', L, E, ce, hT, X', hL, e1, e2, hq, hce, hcv, vx_cls hW₁ hcl, st⟩
theorem vx_runSX {hh : List (Nat × Nat × Nat × Nat)} (S : CallFix p m c cc nL s args Ts own) (hM : vx_Met l y ws rm Pc Qc XC mc ms free) (cw : vx_CSW R s args own index y bytes maxL ret hh ws rm mc ms n) (hp : PreS s H Pc As)
    (hg : g.method = m) (hn : As.length = n) (hsize : g.locals.size = nL) (hstack : g.stack = As.reverse ++ rest) (hW : 2 * g.monitorRoom + (rest.map fun v => v.category).sum ≤ 8) (hdg : decode cc g.pc = .ok (.invokestatic index, 3)) (hf : cells + mc ≤ R.cells ∧ slots + ms ≤ R.slots) :
    vx_Run p l e R s m args below meth c H locs cells slots mc ms g rest (Qc As.toArray) XC free := by
  obtain ⟨⟨hrc, hrs, hfr, hlo, hws, hcw⟩, hcode, hini, hy, hlen, hl, hstt⟩ := cw
  have hK : vx_Back l R p e below s args y 3 8 (PreOf R mc ms Pc) (PostOf Qc mc ms free) (vx_Post XC mc ms free) := vx_backW (hh := hh) (bytes := bytes) (maxL := maxL) (ret := ret) hM hp.1 hrc hrs hfr hlo hws hcw (fun a' U hW => word_at hW (Or.inl (by first | rfl | simp [Cond.onTables, Cond.keeps, Cond.steady])) hini)
  obtain ⟨hx, hb, hml, ho, -⟩ := S
  intro T hT X
  rcases vx_callSX X hx (hh := hh) (bytes := bytes) (maxL := maxL) (ret := ret) ho hl hstt hini hcode hy hK hg (hsize.trans hml.symm) (argsL := As) (rest := rest) (fun sig h => hn.trans (hlen sig h)) hstack hW (by rw [hb]; exact hdg)
    (fun vm₁ hW₁ => ⟨hf.1, hf.2, hp.2 (T.setVm vm₁) hT hW₁⟩) with ⟨v, vm₁, ⟨U', l2, c2, s2⟩, hW₁, X', ⟨g', mk, t, L, e1, e2, hq, h1, hL, h2, h3⟩, st⟩ | ⟨q, vm₁, ⟨U', l2, c2, s2⟩, hW₁, X', ⟨g', mk, t, L, E, ce, e1, e2, hq, hce, hcv, hcl, h1, hL, h2, h3⟩, st⟩
  · dsimp only [Pt.U, Pt.locs, Pt.cells, Pt.slots] at X' e1 e2 h1 h2 h3 st
    subst h1; subst h2; subst h3
    exact Or.inl ⟨v, (T.setVm vm₁).calling g' mk As.toArray, t, U', L, hT, X', hL, e1, e2, hq, st⟩
  · dsimp only [Pt.U, Pt.locs, Pt.cells, Pt.slots] at X' e1 e2 h1 h2 h3 st hcl
    subst h1; subst h2; subst h3
    exact Or.inr ⟨q, (T.setVm vm₁).calling g' mk As.toArray, t, U', L, E, ce, hT, X', hL, e1, e2, hq, hce, hcv, vx_cls hW₁ hcl, st⟩
end
end VXH
theorem vx_ofWH {l : Launch} {y : MethodName} {ws ws' : List Cond} {rm : Room} {Pc : Array Value → State → Prop} {Qc : Array Value → State → Outcome → State → Prop} {XC : String → State → State → Prop} {mc ms : Nat} {free : Addr → Prop} {cc : ByteArray} {maxL : Nat} {ret : Option FieldType} {hh : List (Nat × Nat × Nat × Nat)}
    (hy : plainName y.cls = true) (hw : ws = Cond.codeWith y cc maxL ret hh :: ws')
    (body : ∀ p e s m args below meth c s₁, BodyLoose p l y (headSpec ws rm) cc maxL ret e s m args below meth c s₁ → c.maxLocals = maxL → Pc args s →
      W p l e (headSpec ws rm).room s m args below meth c s.heap [] 0 0 (vx_MQ below Qc XC args s mc ms free) (entryFrame m args maxL)) : vx_Met l y ws rm Pc Qc XC mc ms free := by
  refine MetFree.of_bodyS (code := cc) (maxLocals := maxL) (ret := ret) hy ?_ ?_
  · intro args s m h hn
    obtain ⟨m9, meth, c, hn9, h1, h2, h3, h4, -, h5, h6, -⟩ := Cond.codeWith_spec (atoms_spec (ws := ws) h _ (by rw [hw]; exact List.mem_cons_self))
    cases hn.symm.trans hn9
    exact ⟨meth, c, h1, h2, h3, h4, h5, h6⟩
  · intro p e s m args below meth c s₁ B hml hP _
    have hh0 : s₁.heap = s.heap := by rw [B.state]; rfl
    obtain ⟨t, a1, o, b1, b2, b3⟩ := body p e s m args below meth c s₁ B hml hP s₁ hh0 (Stand.of_body B)
    exact ⟨t, o, a1, b1, b2, b3⟩
/-! ===== END ===== -/
/-! ===== BEGIN what the machine throws by itself, no traces kept ===== -/
section VXM
set_option maxHeartbeats 1000000 in
/-- the machine throws cls with the message text, no traces kept: from its note over the frame g to 'throwing' over the same frame (follows the proofs of Stand.vmThrowsMessage, Shelf/KitTracedVmS.lean, and Stand.throwsMessageColdBareV, StandMessageColdV.lean, without the step out of the frame) -/
theorem vx_vmAt {p : Program} {l : Launch} {e : Env} {R : Room} {s : State} {m₀ : MethodId} {args : Array Value} {below : List Frame} {meth : Method} {c : Code} {W : State} {locs : List Loc} {cells slots : Nat}
    (X : Stand p l e R s m₀ args below meth c W locs cells slots) (hexec : p.tables.exec = Jvm.exec) (htr : e.platform.stackTraces = false) {cls : String} {names : List String} {text : String}
    (hcls : Bundle.fit cls = true) (hnames : ∀ n ∈ names, Bundle.fit n = true) (hsoe : (cls == "java/lang/StackOverflowError") = false) (hoom : (cls == "java/lang/OutOfMemoryError") = false)
    (h : ∀ a ∈ Bundle.messageArmAtoms cls names, a.before args s = true)
    (hlocs : ∀ x ∈ locs, ∀ cell, s.heap[x.base]? = some cell → cell.vm.isStatics = false)
    (htext : (text == notModelled) = false) (hlimit : ¬ (stringBytes (stringToUtf16 text)).size > e.platform.arrayLengthLimit) (hheap : ¬ (stringBytes (stringToUtf16 text)).size * componentBytes .byte > e.platform.maxHeapBytes)
    {g : JFrame} (hg : g.method = m₀) (hsize : g.locals.size = c.maxLocals)
    (hRframes : names.length + 4 < R.frames) (hRlocals : 2 * g.monitorRoom + (g.stack.map fun v => v.category).sum + 10240 ≤ R.locals) (hshort : 13 * names.length + 55 ≤ 10240)
    (hRcells : cells + 3 ≤ R.cells) (hRslots : slots + ((stringBytes (stringToUtf16 text)).size + 4 + 6) ≤ R.slots) (hlocks : meth.locks = false) :
    ∃ (S : State) (q : Addr) (ce : Cell), (∀ target, Steps p.tables e below ((S.setTop g).pushFrame (.throwing q)) target → Steps p.tables e below ((W.setTop g).pushFrame (.throwNew cls (some text) none)) target) ∧
      Stand p l e R s m₀ args below meth c S locs (cells + 3) (slots + ((stringBytes (stringToUtf16 text)).size + 4 + 6)) ∧ S.heap[q]? = some ce ∧ s.vm.findClass cls = some ce.cls ∧ ce.vm = .none := by
  have howns : e.platform.frameOwnsMonitors = true := by rw [X.admits.platform]
  have hfin : e.platform.finalization = false := by rw [X.admits.platform]
  have hpl : e.platform.magicAccessors = ({} : Platform).magicAccessors := by rw [X.admits.platform]
  have a : ∀ x, x ∈ Bundle.messageArmAtoms cls names → x.holds args s none s [] = true := fun x hx => h x hx
  obtain ⟨T, Z0, L, -, Y⟩ := ThrowableC.of_atoms (args := args) howns hfin hpl (fun x hx => h x (by simp [Bundle.messageArmAtoms, hx]))
  obtain ⟨Z, M, LZ, LM, hnZ⟩ := Init0T.ofS_atoms (args := args) hpl L Y (fun x hx => h x (by simp [Bundle.messageArmAtoms, hx]))
  obtain ⟨P1, Ps, hlen, L1, hL, hP1m, hlink1, hlink⟩ := Bundle.chainS (args := args) hpl hnZ names cls hcls hnames (fun x hx => h x (by simp [Bundle.messageArmAtoms, hx]))
  obtain ⟨Zs, LZs, hn4, hfitv, hfitc⟩ := StringT.of_atoms (args := args) (fun x hx => h x (by simp [Bundle.messageArmAtoms, hx]))
  have hfound : s.vm.findClass cls = some P1.m.cls := findClass_of_methodNamed hP1m
  obtain ⟨c1, kX, hc1, hk, hord, -, -, hn6⟩ := Cond.instantiable_spec (a (.instantiable cls 6) (by simp [Bundle.messageArmAtoms]))
  cases Option.some.inj (hc1.symm.trans hfound)
  have hinit := Cond.initialized_spec hfound hk (a (.initialized cls) (by simp [Bundle.messageArmAtoms]))
  have hctor : kX.findMethod "<init>" "(Ljava/lang/String;)V" = some P1.m.idx := findMethod_of_methodNamed hP1m hk
  have hsel0 : selectMethod e.platform s.vm P1.m.cls T.fill0 = .method T.fill0 := by
    obtain ⟨c2, r2, m2, q1, q2, q3, q4, -⟩ := Cond.selects_spec (a (.selects cls Bundle.tFill0 Bundle.tFill0) (by simp [Bundle.messageArmAtoms]))
    cases Option.some.inj (q1.symm.trans hfound)
    cases Option.some.inj (q2.symm.trans (State.methodFound?_of_named Y.fill0 (by decide)))
    cases Option.some.inj (q3.symm.trans Y.fill0)
    rw [Launch.admits_selectMethod X.admits]; exact q4
  have hselF : selectMethod e.platform s.vm P1.m.cls T.fill = .method T.fill := by
    obtain ⟨c2, r2, m2, q1, q2, q3, q4, -⟩ := Cond.selects_spec (a (.selects cls Bundle.tFill Bundle.tFill) (by simp [Bundle.messageArmAtoms]))
    cases Option.some.inj (q1.symm.trans hfound)
    cases Option.some.inj (q2.symm.trans (State.methodFound?_of_named Y.fill (by decide)))
    cases Option.some.inj (q3.symm.trans Y.fill)
    rw [Launch.admits_selectMethod X.admits]; exact q4
  obtain ⟨cellS0, hcS0, hiss⟩ := Y.statics
  obtain ⟨u0, hu0⟩ := Cond.staticRefV Y.unassigned L.unassignedStatic L.statics hcS0 hiss (a (.isRef (.static Bundle.tN "UNASSIGNED_STACK" Bundle.steD)) (by simp [Bundle.messageArmAtoms]))
  obtain ⟨sen, hsen⟩ := Cond.staticRefV Y.sentinel L.sentinelStatic L.statics hcS0 hiss (a (.isRef (.static Bundle.tN "SUPPRESSED_SENTINEL" Bundle.listD)) (by simp [Bundle.messageArmAtoms]))
  obtain ⟨ci198, i198, fB, hk198, hg198, ha198, hsB, -, hnB, htB, hffB⟩ := Cond.ownField (t := .object "java/lang/Object") Y.found L.cls (by decide +kernel) (a (.fieldLink Bundle.tN 198 Bundle.tN "backtrace" "Ljava/lang/Object;") (by simp [Bundle.messageArmAtoms])) (a (.lays Bundle.tN Bundle.tN "backtrace" "Ljava/lang/Object;") (by simp [Bundle.messageArmAtoms])) e.platform hpl
  obtain ⟨cellS, hcS', heS, -, hkeep⟩ := X.same.2.2.2.2.2 T.aS cellS0 hcS0
  have hcellS : W.heap[T.aS]? = some cellS := hcS'
  have hout' : ∀ i, (⟨T.aS, i⟩ : Loc) ∉ locs := fun i hmem => by
    have := hlocs _ hmem cellS0 hcS0
    rw [hiss] at this; cases this
  have hknownS : cellS.vm ≠ .unknown := by
    rw [heS]; intro hu
    rw [show cellS0.vm = .unknown from hu] at hiss
    cases hiss
  have hvU : cellS.slots[T.fUnassigned.slot]? = some u0.v := by rw [hkeep _ (hout' _)]; exact hu0
  have hvSen : cellS.slots[T.fSentinel.slot]? = some sen.v := by rw [hkeep _ (hout' _)]; exact hsen
  obtain ⟨iM, hffM⟩ := Y.msg
  obtain ⟨tyC, dC, hdC, hdnC⟩ := Cond.laysAt hfound hk Y.cause (a (.lays cls Bundle.tN "cause" "Ljava/lang/Throwable;") (by simp [Bundle.messageArmAtoms]))
  obtain ⟨tyS, dS, hdS, hdnS⟩ := Cond.laysAt hfound hk Y.stack (a (.lays cls Bundle.tN "stackTrace" Bundle.steD) (by simp [Bundle.messageArmAtoms]))
  obtain ⟨tyP, dP, hdP, hdnP⟩ := Cond.laysAt hfound hk Y.supp (a (.lays cls Bundle.tN "suppressedExceptions" Bundle.listD) (by simp [Bundle.messageArmAtoms]))
  obtain ⟨tyM, dM, hdM, hdnM⟩ := Cond.laysAt hfound hk hffM (a (.lays cls Bundle.tN "detailMessage" "Ljava/lang/String;") (by simp [Bundle.messageArmAtoms]))
  obtain ⟨tyB, dB, hdB, hdnB⟩ := Cond.laysAt hfound hk hffB (a (.lays cls Bundle.tN "backtrace" "Ljava/lang/Object;") (by simp [Bundle.messageArmAtoms]))
  have bC := Cond.laysApart hdB hdC hdnB hdnC (by rw [hnB, Y.causeName]; decide)
  have bS := Cond.laysApart hdB hdS hdnB hdnS (by rw [hnB, Y.stackName]; decide)
  have bP := Cond.laysApart hdB hdP hdnB hdnP (by rw [hnB, Y.suppName]; decide)
  have hbk : ((preparedCellV T.toThrowableT (freshCell P1.m.cls kX) (W.heap.size + 2) u0 sen).withEntry W.cur).slots[fB.slot]? = some .null := by
    have := fresh_default (c := P1.m.cls) tyB
    rw [htB] at this
    simpa [preparedCellV, Cell.setSlot, Cell.withEntry, Array.getElem?_setIfInBounds, bC, bS, bP, bC.symm, bS.symm, bP.symm, defaultValue] using this
  have tkC := Takes.of_laid (v := .ref (W.heap.size + 2)) hk hord tyC (by rw [Y.causeType]; rfl)
  have tkS := Takes.of_laid (v := u0.v) hk hord tyS (by rw [Y.stackType]; exact fits_refV_array _ u0)
  have tkP := Takes.of_laid (v := sen.v) hk hord tyP (by rw [Y.suppType]; exact fits_refV_object _ sen)
  have tkM := Takes.of_laid (v := .ref (W.heap.size + 1)) hk hord tyM (by rw [Y.msgType]; rfl)
  have hskip : SkipFacts T e.platform s (fun u => u) u0 ((preparedCellV T.toThrowableT (freshCell P1.m.cls kX) (W.heap.size + 2) u0 sen).withEntry W.cur) := ⟨{ ci198 := ci198, i198 := i198, fBack := fB }, ⟨hk198, hg198, ha198, hsB⟩, hbk, fun _ _ => rfl⟩
  have h0 : At W g.method c below := by rw [hg]; exact X.here
  obtain ⟨hbeyond, hfreeW⟩ := X.vmMayThrow hsize (.throwNew cls (some text) none) (fun f hf => by cases hf) rfl hRlocals
  have hfr' : W.frames.length + Ps.length + 4 < (e.platform.stackLimits W.me).1 := by have := X.framesAbove hRframes; omega
  have hwd' : (stackUse (.java g :: W.frames.tail)).2 + 13 * Ps.length + 55 ≤ (e.platform.stackLimits W.me).2 := by have := X.stackAbove hsize (K := 13 * Ps.length + 55) (by omega); omega
  have hslots : W.slotsUsed + (stringBytes (stringToUtf16 text)).size + Zs.kS.instanceTypes.size + kX.instanceTypes.size ≤ e.platform.maxSlots := by
    have := X.slotsAbove hRslots
    rw [hn4, hn6]
    omega
  obtain ⟨vm', hW', st⟩ := Steps.vmThrowsMessageColdByV p (s₀ := s) (S := W) (g := g) h0 hexec T L Z LZ M LM X.warmed (t := W.cur) rfl Zs LZs P1 L1 Ps hL hlink1 hlink hsoe hoom hfound hk hinit hord hctor
    (Launch.admits_hotImplicitExceptions X.admits) hbeyond hfreeW htext hlimit hheap (X.cellsAbove hRcells) hslots (hfitv _) (hfitc _)
    (Nn := fun u => u) heapOnly_id (fun _ _ => rfl) (fun _ => rfl) (fun u x y => setCell_twice _ _ _ _) (fun _ => Nat.le_refl _) (cN := ((preparedCellV T.toThrowableT (freshCell P1.m.cls kX) (W.heap.size + 2) u0 sen).withEntry W.cur))
    hsel0 hcellS hknownS hvU tkS (fun _ hu => hu) (fun _ hu => hu) rfl rfl rfl (by simp [preparedCellV, Cell.setSlot, Cell.withEntry]) hskip (fun _ _ hA hW _ hroom _ hrest => L.nativeOff p htr hA hW hroom hrest) hselF hvSen tkC tkP tkM Y.objLocals rfl hfr' hwd'
  rw [plainBareV_eq T.toThrowableT (W.heap.size + 2) u0 sen (.ref (W.heap.size + 1)) W.cur rfl rfl] at st
  obtain ⟨-, -, w3, w4, -, -, -⟩ := withThrown_facts e.platform W Zs text P1.m.cls kX
  have X3 := ((X.pushed (bytesOf Zs.cB (stringToUtf16 text))).pushed (stringAt Zs.cS Zs.kS Zs.fv Zs.fc (stringToUtf16 text) W.heap.size)).pushed (freshCell P1.m.cls kX)
  rw [← withString_eq] at X3
  have X4 := X3.noted hW'
  have ha : (W.heap.size + 2) < ((withThrown W Zs text P1.m.cls kX).setVm vm').heap.size := by show _ < (withThrown W Zs text P1.m.cls kX).heap.size; rw [w3]; omega
  have hcell : ((withThrown W Zs text P1.m.cls kX).setVm vm').heap[(W.heap.size + 2)]? = some (freshCell P1.m.cls kX) := w4
  have X5 := ((((X4.stored hcell T.fCause.slot (.ref (W.heap.size + 2))).storedAgain ha T.fStack.slot u0.v).storedAgain ha T.fSupp.slot sen.v).storedAgain ha T.fStack.slot u0.v).storedAgain ha T.fMsg.slot (.ref (W.heap.size + 1))
  obtain ⟨g₁, hfrM⟩ := X5.frames_eq
  have hU : ((((withThrown W Zs text P1.m.cls kX).setVm vm').setCell (W.heap.size + 2) (plainBareV T.toThrowableT (freshCell P1.m.cls kX) (W.heap.size + 2) u0 sen (.ref (W.heap.size + 1)))).setTop g).pushFrame (.throwing (W.heap.size + 2)) = (((withThrown W Zs text P1.m.cls kX).setVm vm').setCell (W.heap.size + 2) (plainBareV T.toThrowableT (freshCell P1.m.cls kX) (W.heap.size + 2) u0 sen (.ref (W.heap.size + 1)))).setFrames (.throwing (W.heap.size + 2) :: .java g :: below) := by
    rw [State.pushFrame, State.frames_setTop _ hfrM, State.setTop_of_frames _ hfrM, State.setFrames_setFrames]
  have b1 : (bytesOf Zs.cB (stringToUtf16 text)).slots.size = (stringBytes (stringToUtf16 text)).size := by
    rw [(Cell.writeAll_facts _ _).2.2]; simp [bytes0]
  have b2 : (stringAt Zs.cS Zs.kS Zs.fv Zs.fc (stringToUtf16 text) W.heap.size).slots.size = 4 := by simp [string0, Cell.setSlot, hn4]
  have b3 : (freshCell P1.m.cls kX).slots.size = 6 := by simp [hn6]
  rw [b1, b2, b3] at X5
  have e9 : slots + (stringBytes (stringToUtf16 text)).size + 4 + 6 = slots + ((stringBytes (stringToUtf16 text)).size + 4 + 6) := by omega
  rw [e9] at X5
  simp only [List.append_assoc, List.cons_append, List.nil_append] at X5
  refine ⟨((withThrown W Zs text P1.m.cls kX).setVm vm').setCell (W.heap.size + 2) (plainBareV T.toThrowableT (freshCell P1.m.cls kX) (W.heap.size + 2) u0 sen (.ref (W.heap.size + 1))), W.heap.size + 2, _, fun target ht => st _ (by rw [X.tail, ← hU]; exact ht),
    X5.forget (fun y hy => ?_), heapAt_setCell_self _ ha, hfound, rfl⟩
  simp only [List.mem_cons, List.not_mem_nil, or_false] at hy
  have hge : s.heap.size ≤ W.heap.size := X.same.2.1
  rcases hy with rfl | rfl | rfl | rfl | rfl <;> exact Nat.le_trans hge (Nat.le_add_right _ 2)
set_option maxHeartbeats 1000000 in
/-- the machine throws NullPointerException, no traces kept: from its note over the frame g to 'throwing' over the same frame (follows the proof of Stand.vmThrowsNpe, Shelf42/KT2.lean; throwsNpeColdBareVAt, Shelf42/NT91.lean, called) -/
theorem vx_npeAt {p : Program} {l : Launch} {e : Env} {R : Room} {s : State} {m₀ : MethodId} {args : Array Value} {below : List Frame} {meth : Method} {c : Code} {W : State} {locs : List Loc} {cells slots : Nat}
    (X : Stand p l e R s m₀ args below meth c W locs cells slots) (hexec : p.tables.exec = Jvm.exec) (htr : e.platform.stackTraces = false) {n : Nat}
    (h : ∀ a ∈ Bundle.npeArmAtoms n, a.before args s = true)
    (hlocs : ∀ x ∈ locs, ∀ cell, s.heap[x.base]? = some cell → cell.vm.isStatics = false)
    {g : JFrame} (hg : g.method = m₀) (hsize : g.locals.size = c.maxLocals)
    (hRframes : 7 < R.frames) (hRlocals : 2 * g.monitorRoom + (g.stack.map fun v => v.category).sum + 10240 ≤ R.locals)
    (hRcells : cells + 1 ≤ R.cells) (hRslots : slots + n ≤ R.slots) (hlocks : meth.locks = false) :
    ∃ (S : State) (q : Addr) (ce : Cell), (∀ target, Steps p.tables e below ((S.setTop g).pushFrame (.throwing q)) target → Steps p.tables e below ((W.setTop g).pushFrame (.throwNew "java/lang/NullPointerException" none none)) target) ∧
      Stand p l e R s m₀ args below meth c S locs (cells + 1) (slots + n) ∧ S.heap[q]? = some ce ∧ s.vm.findClass "java/lang/NullPointerException" = some ce.cls ∧ ce.vm = .none := by
  have howns : e.platform.frameOwnsMonitors = true := by rw [X.admits.platform]
  have hfin : e.platform.finalization = false := by rw [X.admits.platform]
  have hpl : e.platform.magicAccessors = ({} : Platform).magicAccessors := by rw [X.admits.platform]
  have hpl2 : e.platform.arrayCloneIsPublic = true := by rw [X.admits.platform]
  have a' : ∀ x, x ∈ Bundle.npeArmAtoms n → x.holds args s none s [] = true := fun x hx => h x hx
  obtain ⟨T, Z, L, LZ, Y⟩ := ThrowableC.of_atoms (args := args) howns hfin hpl (fun x hx => h x (by simp [Bundle.npeArmAtoms, hx]))
  obtain ⟨N, LN, hcN, hnNF, hordN, hffS⟩ := NpeC.of_atoms (args := args) hpl hpl2 L Y (fun x hx => h x (by simp [Bundle.npeArmAtoms, hx]))
  obtain ⟨P1, L1, hP1m, hP1s⟩ := PassC.of_atoms (args := args) (s := s) hpl (X := Bundle.nN) (Y := Bundle.rN) (by decide) (by decide) LibCode.NullPointerException.Init0.at_0 LibCode.NullPointerException.Init0.at_1 LibCode.NullPointerException.Init0.at_4 (fun x hx => h x (by simp [Bundle.npeArmAtoms, hx]))
  obtain ⟨PR, LR, hPRm, hPRs⟩ := PassC.of_atoms (args := args) (s := s) hpl (X := Bundle.rN) (Y := Bundle.eN) (by decide) (by decide) LibCode.RuntimeException.Init0.at_0 LibCode.RuntimeException.Init0.at_1 LibCode.RuntimeException.Init0.at_4 (fun x hx => h x (by simp [Bundle.npeArmAtoms, hx]))
  obtain ⟨PE, LEx, hPEm, hPEs⟩ := PassC.of_atoms (args := args) (s := s) hpl (X := Bundle.eN) (Y := Bundle.tN) (by decide) (by decide) LibCode.Exception.Init0.at_0 LibCode.Exception.Init0.at_1 LibCode.Exception.Init0.at_4 (fun x hx => h x (by simp [Bundle.npeArmAtoms, hx]))
  have hfound : s.vm.findClass Bundle.nN = some P1.m.cls := findClass_of_methodNamed hP1m
  have ecls : N.cN = P1.m.cls := Option.some.inj (hcN.symm.trans hfound)
  have hk : s.vm.classes[P1.m.cls]? = some N.kN := by rw [← ecls]; exact LN.cls
  have hinit := Cond.initialized_spec hfound hk (a' (.initialized Bundle.nN) (by simp [Bundle.npeArmAtoms]))
  have hctor : N.kN.findMethod "<init>" "()V" = some P1.m.idx := findMethod_of_methodNamed hP1m hk
  obtain ⟨c1, k1, hc1, hk1, -, -, -, hn⟩ := Cond.instantiable_spec (a' (.instantiable Bundle.nN n) (by simp [Bundle.npeArmAtoms]))
  cases Option.some.inj (hc1.symm.trans hfound)
  cases Option.some.inj (hk1.symm.trans hk)
  have hfsz : (freshCell P1.m.cls N.kN).slots.size = n := by simp [hn]
  have hlink1 : P1.sup = PR.m := Option.some.inj (hP1s.symm.trans hPRm)
  have hlinkR : PR.sup = PE.m := Option.some.inj (hPRs.symm.trans hPEm)
  have hlinkE : PE.sup = Z.m T.toThrowableT := Option.some.inj (hPEs.symm.trans Y.init0)
  have hLs : ∀ P, P ∈ [PR, PE] → P.Links0 e.platform s := fun P hP => by
    simp only [List.mem_cons, List.not_mem_nil, or_false] at hP
    rcases hP with rfl | rfl
    · exact LR
    · exact LEx
  have hsel0 : selectMethod e.platform s.vm P1.m.cls T.fill0 = .method T.fill0 := by
    obtain ⟨c2, r2, m2, q1, q2, q3, q4, -⟩ := Cond.selects_spec (a' (.selects Bundle.nN Bundle.tFill0 Bundle.tFill0) (by simp [Bundle.npeArmAtoms]))
    cases Option.some.inj (q1.symm.trans hfound)
    cases Option.some.inj (q2.symm.trans (State.methodFound?_of_named Y.fill0 (by decide)))
    cases Option.some.inj (q3.symm.trans Y.fill0)
    rw [Launch.admits_selectMethod X.admits]; exact q4
  have hselF : selectMethod e.platform s.vm P1.m.cls T.fill = .method N.fill := by
    obtain ⟨c2, r2, m2, q1, q2, q3, q4, -⟩ := Cond.selects_spec (a' (.selects Bundle.nN Bundle.tFill Bundle.nFill) (by simp [Bundle.npeArmAtoms]))
    cases Option.some.inj (q1.symm.trans hfound)
    cases Option.some.inj (q2.symm.trans (State.methodFound?_of_named Y.fill (by decide)))
    cases Option.some.inj (q3.symm.trans hnNF)
    rw [Launch.admits_selectMethod X.admits]; exact q4
  obtain ⟨cellS0, hcS0, hiss⟩ := Y.statics
  obtain ⟨u0, hu0⟩ := Cond.staticRefV Y.unassigned L.unassignedStatic L.statics hcS0 hiss (a' (.isRef (.static Bundle.tN "UNASSIGNED_STACK" Bundle.steD)) (by simp [Bundle.npeArmAtoms]))
  obtain ⟨sen, hsen⟩ := Cond.staticRefV Y.sentinel L.sentinelStatic L.statics hcS0 hiss (a' (.isRef (.static Bundle.tN "SUPPRESSED_SENTINEL" Bundle.listD)) (by simp [Bundle.npeArmAtoms]))
  obtain ⟨ci198, i198, fB, hk198, hg198, ha198, hsB, -, hnB, htB, hffB⟩ := Cond.ownField (t := .object "java/lang/Object") Y.found L.cls (by decide +kernel) (a' (.fieldLink Bundle.tN 198 Bundle.tN "backtrace" Bundle.objD) (by simp [Bundle.npeArmAtoms])) (a' (.lays Bundle.tN Bundle.tN "backtrace" Bundle.objD) (by simp [Bundle.npeArmAtoms])) e.platform hpl
  obtain ⟨cellS, hcS', heS, -, hkeep⟩ := X.same.2.2.2.2.2 T.aS cellS0 hcS0
  have hcellS : W.heap[T.aS]? = some cellS := hcS'
  have hout' : ∀ i, (⟨T.aS, i⟩ : Loc) ∉ locs := fun i hmem => by
    have := hlocs _ hmem cellS0 hcS0
    rw [hiss] at this; cases this
  have hknownS : cellS.vm ≠ .unknown := by
    rw [heS]; intro hu
    rw [show cellS0.vm = .unknown from hu] at hiss
    cases hiss
  have hvU : cellS.slots[T.fUnassigned.slot]? = some u0.v := by rw [hkeep _ (hout' _)]; exact hu0
  have hvSen : cellS.slots[T.fSentinel.slot]? = some sen.v := by rw [hkeep _ (hout' _)]; exact hsen
  obtain ⟨tyC, dC, hdC, hdnC⟩ := Cond.laysAt hfound hk Y.cause (a' (.lays Bundle.nN Bundle.tN "cause" "Ljava/lang/Throwable;") (by simp [Bundle.npeArmAtoms]))
  obtain ⟨tyS, dS, hdS, hdnS⟩ := Cond.laysAt hfound hk Y.stack (a' (.lays Bundle.nN Bundle.tN "stackTrace" Bundle.steD) (by simp [Bundle.npeArmAtoms]))
  obtain ⟨tyP, dP, hdP, hdnP⟩ := Cond.laysAt hfound hk Y.supp (a' (.lays Bundle.nN Bundle.tN "suppressedExceptions" Bundle.listD) (by simp [Bundle.npeArmAtoms]))
  obtain ⟨tyX, dX, hdX, hdnX⟩ := Cond.laysAt hfound hk hffS (a' (.lays Bundle.nN Bundle.nN "extendedMessageState" "I") (by simp [Bundle.npeArmAtoms, Bundle.npeAtoms]))
  obtain ⟨hnX, htX⟩ := State.fieldFound?_type hffS (t := .int) (by decide +kernel)
  have xC := Cond.laysApart hdC hdX hdnC hdnX (by rw [hnX, Y.causeName]; decide)
  have xS := Cond.laysApart hdS hdX hdnS hdnX (by rw [hnX, Y.stackName]; decide)
  have xP := Cond.laysApart hdP hdX hdnP hdnX (by rw [hnX, Y.suppName]; decide)
  have hv0 : (freshCell P1.m.cls N.kN).slots[N.fState.slot]? = some (.int 0) := by
    have := fresh_default (c := P1.m.cls) tyX
    rw [htX] at this; exact this
  obtain ⟨tyB, dB, hdB, hdnB⟩ := Cond.laysAt hfound hk hffB (a' (.lays Bundle.nN Bundle.tN "backtrace" Bundle.objD) (by simp [Bundle.npeArmAtoms]))
  have bC := Cond.laysApart hdB hdC hdnB hdnC (by rw [hnB, Y.causeName]; decide)
  have bS := Cond.laysApart hdB hdS hdnB hdnS (by rw [hnB, Y.stackName]; decide)
  have bP := Cond.laysApart hdB hdP hdnB hdnP (by rw [hnB, Y.suppName]; decide)
  have bX := Cond.laysApart hdB hdX hdnB hdnX (by rw [hnB, hnX]; decide)
  have hbk : ((npeCell N.toNpeT (preparedCellV T.toThrowableT (freshCell P1.m.cls N.kN) W.heap.size u0 sen) W.cur).withEntry W.cur).slots[fB.slot]? = some .null := by
    have := fresh_default (c := P1.m.cls) tyB
    rw [htB] at this
    simpa [npeCell, preparedCellV, Cell.setSlot, Cell.withEntry, Array.getElem?_setIfInBounds, bC, bS, bP, bX, bC.symm, bS.symm, bP.symm, bX.symm, defaultValue] using this
  have tkC := Takes.of_laid (v := .ref W.heap.size) hk hordN tyC (by rw [Y.causeType]; rfl)
  have tkS := Takes.of_laid (v := u0.v) hk hordN tyS (by rw [Y.stackType]; exact fits_refV_array _ u0)
  have tkP := Takes.of_laid (v := sen.v) hk hordN tyP (by rw [Y.suppType]; exact fits_refV_object _ sen)
  have tkX := Takes.of_laid (v := .int 1) hk hordN tyX (by rw [htX]; rfl)
  have hskip : SkipFacts T e.platform s (fun u => u) u0 ((npeCell N.toNpeT (preparedCellV T.toThrowableT (freshCell P1.m.cls N.kN) W.heap.size u0 sen) W.cur).withEntry W.cur) := ⟨{ ci198 := ci198, i198 := i198, fBack := fB }, ⟨hk198, hg198, ha198, hsB⟩, hbk, fun _ _ => rfl⟩
  obtain ⟨vm', X3, st, -⟩ := X.throwsNpeColdBareVAt hexec hg hsize T L Z LZ N LN P1 L1 [PR, PE] hLs hlink1 ⟨hlinkR, hlinkE, trivial⟩ hfound hk hinit hordN hctor hsel0 hselF hcellS hknownS hvU hvSen
    hv0 xC xS xP tkC tkS tkP tkX Y.objLocals hskip (fun _ _ hA hW _ hroom _ hrest => L.nativeOff p htr hA hW hroom hrest) (by simpa using hRframes) hRlocals (by simp) hRcells (by rw [hn]; exact hRslots)
  have hlt : W.heap.size < ((W.pushCell (freshCell P1.m.cls N.kN)).setVm vm').heap.size := by
    show W.heap.size < (W.pushCell (freshCell P1.m.cls N.kN)).heap.size
    rw [State.heap_size_pushCell]; omega
  rw [hfsz] at X3
  obtain ⟨g₁, hfrM⟩ := X3.frames_eq
  have hU : ((((W.pushCell (freshCell P1.m.cls N.kN)).setVm vm').setCell W.heap.size (npeBareV T.toThrowableT N.toNpeT (freshCell P1.m.cls N.kN) W.heap.size u0 sen)).setTop g).pushFrame (.throwing W.heap.size) = (((W.pushCell (freshCell P1.m.cls N.kN)).setVm vm').setCell W.heap.size (npeBareV T.toThrowableT N.toNpeT (freshCell P1.m.cls N.kN) W.heap.size u0 sen)).setFrames (.throwing W.heap.size :: .java g :: below) := by
    rw [State.pushFrame, State.frames_setTop _ hfrM, State.setTop_of_frames _ hfrM, State.setFrames_setFrames]
  refine ⟨_, W.heap.size, _, fun target ht => st.trans (by rw [← hU]; exact ht), X3.forget (fun y hy => ?_), heapAt_setCell_self _ hlt, hfound, rfl⟩
  simp only [List.mem_cons, List.not_mem_nil, or_false] at hy
  have hge : s.heap.size ≤ W.heap.size := X.same.2.1
  rcases hy with rfl | rfl | rfl | rfl | rfl <;> exact hge
/-- the words of a machine's NullPointerException, but the four that speak of the heap -/
def vx_atN (n : Nat) : List Cond := (Bundle.npeArmAtoms n).filter vx_no
/-- the words of a machine's throw with a message, but the four that speak of the heap -/
def vx_atM (X : String) (names : List String) : List Cond := (Bundle.messageArmAtoms X names).filter vx_no
section
variable {p : Program} {l : Launch} {e : Env} {R : Room} {s : State} {m : MethodId} {args : Array Value} {below : List Frame} {meth : Method} {c : Code} {H : Heap} {locs : List Loc} {cells slots : Nat}
/-- a frame seen from a rebased start, seen from the first start again -/
theorem vx_back9 {T S : State} {R' : Room} {k n : Nat} (X : Stand p l e R s m args below meth c T locs cells slots) (Y : Stand p l e R' ((T.setVm s.vm).setFrames (.invoking m args :: below)) m args below meth c T [] 0 0) (Z : Stand p l e R' ((T.setVm s.vm).setFrames (.invoking m args :: below)) m args below meth c S [] k n) :
    Stand p l e R s m args below meth c S locs (cells + k) (slots + n) := by
  have hW0 : s.WarmedH ((T.setVm s.vm).setFrames (.invoking m args :: below)).vm := State.WarmedH.refl s
  refine { admits := X.admits, cas := X.cas, clock := X.clock, frames := X.frames, room := X.room, hears := X.hears, method := X.method, code := X.code, here := Z.here, tail := Z.tail, warmed := State.WarmedH.trans hW0 Z.warmed, limits := Z.limits.trans (Y.limits.symm.trans X.limits), bytes := Z.bytes.trans (Y.bytes.symm.trans X.bytes), same := ?_ }
  obtain ⟨e1, e2⟩ := Z.same
  rw [State.setFrames_setFrames] at e1
  have h2 : (T.setVm s.vm).sameButNew (S.setVm s.vm) [] k n := ⟨e1, e2⟩
  have h3 := X.same.trans h2
  rw [List.append_nil] at h3
  exact h3
/-- from the machine's note that E is thrown here with this text -/
def vx_Note (p : Program) (l : Launch) (e : Env) (R : Room) (s : State) (m : MethodId) (args : Array Value) (below : List Frame) (meth : Method) (c : Code) (H : Heap) (locs : List Loc) (cells slots : Nat) (Q : State → Prop) (g : JFrame) (E text : String) : Prop :=
  ∀ T : State, T.heap = H → Stand p l e R s m args below meth c T locs cells slots → ∃ t, Steps p.tables e below ((T.setTop g).pushFrame (.throwNew E (some text) none)) t ∧ Q t
theorem vx_vm {pc : Nat} {ls : Array Slot} {rest : List Value} {Q : State → Prop} (hexec : p.tables.exec = Jvm.exec) (hl : l.stackTraces = false) {cls text : String} {names : List String} {nb : Nat} {A : Nat → Prop}
    (hcls : Bundle.fit cls = true) (hnames : ∀ n ∈ names, Bundle.fit n = true) (hsoe : (cls == "java/lang/StackOverflowError") = false) (hoom : (cls == "java/lang/OutOfMemoryError") = false)
    (hat : ∀ w ∈ vx_atM cls names, w.before args s = true) (hgood : ∀ w ∈ vx_atM cls names, vx_ot w = true)
    (hU : vx_Zq Bundle.tN "UNASSIGNED_STACK" Bundle.steD A s s.heap) (hN : vx_Zq Bundle.tN "SUPPRESSED_SENTINEL" Bundle.listD A s s.heap) (hS : va_S A s.heap H locs) (hsize : ls.size = c.maxLocals)
    (htext : (text == notModelled) = false) (hnb : (stringBytes (stringToUtf16 text)).size ≤ nb) (hnb1 : nb ≤ 1000)
    (hRframes : names.length + 4 < R.frames) (hRlocals : (rest.map fun v => v.category).sum + 10240 ≤ R.locals) (hshort : 13 * names.length + 55 ≤ 10240) (hRcells : cells + 3 ≤ R.cells) (hRslots : slots + (nb + 10) ≤ R.slots) (hlocks : meth.locks = false)
    (k : ∀ (H1 : Heap) (q9 : Addr) (ce : Cell), H.size ≤ H1.size → (∀ q : Nat, q < H.size → H1[q]? = H[q]?) → va_S A s.heap H1 locs → H1[q9]? = some ce → ce.vm = .none → s.vm.findClass cls = some ce.cls → vx_W p l e R s m args below meth c H1 locs (cells + 3) (slots + (nb + 10)) Q (F0 m pc ls rest) q9) :
    vx_Note p l e R s m args below meth c H locs cells slots Q (F0 m pc ls rest) cls text := by
  intro T hT X
  have htr : e.platform.stackTraces = false := (show e.platform.stackTraces = l.stackTraces by rw [X.admits.platform]).trans hl
  have Y := vx_rebase X (R' := { frames := R.frames, locals := R.locals, cells := 3, slots := nb + 10 }) (Nat.le_refl _) (Nat.le_refl _) hRcells hRslots
  have hhp : ((T.setVm s.vm).setFrames (.invoking m args :: below)).heap = H := hT
  have hW0 : s.WarmedH ((T.setVm s.vm).setFrames (.invoking m args :: below)).vm := State.WarmedH.refl s
  have hat' : ∀ w ∈ vx_atM cls names, w.before args ((T.setVm s.vm).setFrames (.invoking m args :: below)) = true := fun w hw => vx_ot_at hW0 rfl (hgood w hw) (hat w hw)
  have hU' : vx_Zq Bundle.tN "UNASSIGNED_STACK" Bundle.steD A ((T.setVm s.vm).setFrames (.invoking m args :: below)) ((T.setVm s.vm).setFrames (.invoking m args :: below)).heap := by rw [hhp]; exact vx_Zq.moved hW0.alike (hU.kept hS.2.1)
  have hN' : vx_Zq Bundle.tN "SUPPRESSED_SENTINEL" Bundle.listD A ((T.setVm s.vm).setFrames (.invoking m args :: below)) ((T.setVm s.vm).setFrames (.invoking m args :: below)).heap := by rw [hhp]; exact vx_Zq.moved hW0.alike (hN.kept hS.2.1)
  obtain ⟨S, q, ce, st, Z, hce, hcl', hv⟩ := vx_vmAt Y hexec htr (cls := cls) (names := names) (text := text) hcls hnames hsoe hoom (vx_own hat' (vx_isRefq hU'.1) (vx_isRefq hN'.1) hU'.2.word hN'.2.word) (fun x hx => nomatch hx) htext
    (by rw [Launch.admits_arrayLengthLimit X.admits]; omega) (by rw [Launch.admits_maxHeapBytes X.admits]; simp only [componentBytes]; omega)
    (g := F0 m pc ls rest) rfl hsize hRframes (by show 2 * 0 + (rest.map fun v => v.category).sum + 10240 ≤ R.locals; omega) hshort (by show 0 + 3 ≤ 3; omega) (by show 0 + (_ + 4 + 6) ≤ nb + 10; omega) hlocks
  obtain ⟨f1, f2⟩ := vx_frame Z.same
  have f1' : H.size ≤ S.heap.size := by rw [← hT]; exact f1
  have f2' : ∀ q : Nat, q < H.size → S.heap[q]? = H[q]? := fun q hq => by
    rw [← hT]
    exact f2 q (by rw [← hT] at hq; exact hq) (fun z hz => nomatch hz)
  have X5 := vx_back9 X Y Z
  have X6 : Stand p l e R s m args below meth c S locs (cells + 3) (slots + (nb + 10)) := { X5 with same := X5.same.mono (by omega) (by omega) }
  obtain ⟨t, a1, b1⟩ := k S.heap q ce f1' f2' ⟨Nat.le_trans hS.1 f1', fun q h1 h2 => (f2' q (Nat.lt_of_lt_of_le h1 hS.1)).trans (hS.2.1 q h1 h2), hS.2.2⟩ hce hv hcl' S rfl X6
  exact ⟨t, st t a1, b1⟩
/-- from the machine's note that NullPointerException is thrown here -/
def vx_NoteN (p : Program) (l : Launch) (e : Env) (R : Room) (s : State) (m : MethodId) (args : Array Value) (below : List Frame) (meth : Method) (c : Code) (H : Heap) (locs : List Loc) (cells slots : Nat) (Q : State → Prop) (g : JFrame) : Prop :=
  ∀ T : State, T.heap = H → Stand p l e R s m args below meth c T locs cells slots → ∃ t, Steps p.tables e below ((T.setTop g).pushFrame (.throwNew "java/lang/NullPointerException" none none)) t ∧ Q t
theorem vx_npe {pc : Nat} {ls : Array Slot} {rest : List Value} {Q : State → Prop} (hexec : p.tables.exec = Jvm.exec) (hl : l.stackTraces = false) {nb : Nat} {A : Nat → Prop}
    (hat : ∀ w ∈ vx_atN nb, w.before args s = true) (hgood : ∀ w ∈ vx_atN nb, vx_ot w = true)
    (hU : vx_Zq Bundle.tN "UNASSIGNED_STACK" Bundle.steD A s s.heap) (hN : vx_Zq Bundle.tN "SUPPRESSED_SENTINEL" Bundle.listD A s s.heap) (hS : va_S A s.heap H locs) (hsize : ls.size = c.maxLocals)
    (hRframes : 7 < R.frames) (hRlocals : (rest.map fun v => v.category).sum + 10240 ≤ R.locals) (hRcells : cells + 1 ≤ R.cells) (hRslots : slots + nb ≤ R.slots) (hlocks : meth.locks = false)
    (k : ∀ (H1 : Heap) (q9 : Addr) (ce : Cell), H.size ≤ H1.size → (∀ q : Nat, q < H.size → H1[q]? = H[q]?) → va_S A s.heap H1 locs → H1[q9]? = some ce → ce.vm = .none → s.vm.findClass "java/lang/NullPointerException" = some ce.cls → vx_W p l e R s m args below meth c H1 locs (cells + 1) (slots + nb) Q (F0 m pc ls rest) q9) :
    vx_NoteN p l e R s m args below meth c H locs cells slots Q (F0 m pc ls rest) := by
  intro T hT X
  have htr : e.platform.stackTraces = false := (show e.platform.stackTraces = l.stackTraces by rw [X.admits.platform]).trans hl
  have Y := vx_rebase X (R' := { frames := R.frames, locals := R.locals, cells := 1, slots := nb }) (Nat.le_refl _) (Nat.le_refl _) hRcells hRslots
  have hhp : ((T.setVm s.vm).setFrames (.invoking m args :: below)).heap = H := hT
  have hW0 : s.WarmedH ((T.setVm s.vm).setFrames (.invoking m args :: below)).vm := State.WarmedH.refl s
  have hat' : ∀ w ∈ vx_atN nb, w.before args ((T.setVm s.vm).setFrames (.invoking m args :: below)) = true := fun w hw => vx_ot_at hW0 rfl (hgood w hw) (hat w hw)
  have hU' : vx_Zq Bundle.tN "UNASSIGNED_STACK" Bundle.steD A ((T.setVm s.vm).setFrames (.invoking m args :: below)) ((T.setVm s.vm).setFrames (.invoking m args :: below)).heap := by rw [hhp]; exact vx_Zq.moved hW0.alike (hU.kept hS.2.1)
  have hN' : vx_Zq Bundle.tN "SUPPRESSED_SENTINEL" Bundle.listD A ((T.setVm s.vm).setFrames (.invoking m args :: below)) ((T.setVm s.vm).setFrames (.invoking m args :: below)).heap := by rw [hhp]; exact vx_Zq.moved hW0.alike (hN.kept hS.2.1)
  obtain ⟨S, q, ce, st, Z, hce, hcl', hv⟩ := vx_npeAt Y hexec htr (n := nb) (vx_own hat' (vx_isRefq hU'.1) (vx_isRefq hN'.1) hU'.2.word hN'.2.word) (fun x hx => nomatch hx)
    (g := F0 m pc ls rest) rfl hsize hRframes (by show 2 * 0 + (rest.map fun v => v.category).sum + 10240 ≤ R.locals; omega) (by show 0 + 1 ≤ 1; omega) (by show 0 + nb ≤ nb; omega) hlocks
  obtain ⟨f1, f2⟩ := vx_frame Z.same
  have f1' : H.size ≤ S.heap.size := by rw [← hT]; exact f1
  have f2' : ∀ q : Nat, q < H.size → S.heap[q]? = H[q]? := fun q hq => by
    rw [← hT]
    exact f2 q (by rw [← hT] at hq; exact hq) (fun z hz => nomatch hz)
  have X5 := vx_back9 X Y Z
  have X6 : Stand p l e R s m args below meth c S locs (cells + 1) (slots + nb) := { X5 with same := X5.same.mono (by omega) (by omega) }
  obtain ⟨t, a1, b1⟩ := k S.heap q ce f1' f2' ⟨Nat.le_trans hS.1 f1', fun q h1 h2 => (f2' q (Nat.lt_of_lt_of_le h1 hS.1)).trans (hS.2.1 q h1 h2), hS.2.2⟩ hce hv hcl' S rfl X6
  exact ⟨t, st t a1, b1⟩
variable {Q : State → Prop} {cc : ByteArray} {pc : Nat} {ls : Array Slot} {rest : List Value}
theorem vx_idivZ (hexec : p.tables.exec = Jvm.exec) (hb : c.code = cc) {a b : Int32} (h0 : b = 0) (d : decode cc pc = .ok (.idiv, 1)) (k : vx_Note p l e R s m args below meth c H locs cells slots Q (F0 m pc ls rest) "java/lang/ArithmeticException" "/ by zero") :
    W p l e R s m args below meth c H locs cells slots Q (F0 m pc ls (.int b :: .int a :: rest)) := by
  intro T hT X
  obtain ⟨t, st, q⟩ := k T hT X
  exact ⟨t, X.idivZero hexec (g := F0 m pc ls (.int b :: .int a :: rest)) rfl (a := a) (rest := rest) (by rw [h0]) (by rw [hb]; exact d) t st, q⟩
theorem vx_iremZ (hexec : p.tables.exec = Jvm.exec) (hb : c.code = cc) {a b : Int32} (h0 : b = 0) (d : decode cc pc = .ok (.irem, 1)) (k : vx_Note p l e R s m args below meth c H locs cells slots Q (F0 m pc ls rest) "java/lang/ArithmeticException" "/ by zero") :
    W p l e R s m args below meth c H locs cells slots Q (F0 m pc ls (.int b :: .int a :: rest)) := by
  intro T hT X
  obtain ⟨t, st, q⟩ := k T hT X
  exact ⟨t, X.iremZero hexec (g := F0 m pc ls (.int b :: .int a :: rest)) rfl (a := a) (rest := rest) (by rw [h0]) (by rw [hb]; exact d) t st, q⟩
theorem vx_ldivZ (hexec : p.tables.exec = Jvm.exec) (hb : c.code = cc) {a b : Int64} (h0 : b = 0) (d : decode cc pc = .ok (.ldiv, 1)) (k : vx_Note p l e R s m args below meth c H locs cells slots Q (F0 m pc ls rest) "java/lang/ArithmeticException" "/ by zero") :
    W p l e R s m args below meth c H locs cells slots Q (F0 m pc ls (.long b :: .long a :: rest)) := by
  intro T hT X
  obtain ⟨t, st, q⟩ := k T hT X
  exact ⟨t, X.ldivZero hexec (g := F0 m pc ls (.long b :: .long a :: rest)) rfl (a := a) (rest := rest) (by rw [h0]) (by rw [hb]; exact d) t st, q⟩
theorem vx_lremZ (hexec : p.tables.exec = Jvm.exec) (hb : c.code = cc) {a b : Int64} (h0 : b = 0) (d : decode cc pc = .ok (.lrem, 1)) (k : vx_Note p l e R s m args below meth c H locs cells slots Q (F0 m pc ls rest) "java/lang/ArithmeticException" "/ by zero") :
    W p l e R s m args below meth c H locs cells slots Q (F0 m pc ls (.long b :: .long a :: rest)) := by
  intro T hT X
  obtain ⟨t, st, q⟩ := k T hT X
  exact ⟨t, X.lremZero hexec (g := F0 m pc ls (.long b :: .long a :: rest)) rfl (a := a) (rest := rest) (by rw [h0]) (by rw [hb]; exact d) t st, q⟩
theorem vx_ialdZ {D : va_G} {cl : List vw_C} {ws : va_W} {tys : List (ClassId × FieldType)} {a : Nat} (hexec : p.tables.exec = Jvm.exec) (hb : c.code = cc) (hK : va_K D cl tys s) (hP : va_P D cl ws H) (q0 t0 : Nat) {cA : ClassId} {n : Nat} {f : Nat → Int32} (ha : ws[q0]? = some (a, .inl (cA, n, .inl f))) (ht : tys[t0]? = some (cA, .int)) {i : Int32} (hout : ¬ vp_in i n) (hdg : decode cc pc = .ok (.iaload, 1))
    (k : ∀ tx : String, tx = (toString "Index " ++ toString i ++ toString " out of bounds for length " ++ toString n : String) → vx_Note p l e R s m args below meth c H locs cells slots Q (F0 m pc ls rest) "java/lang/ArrayIndexOutOfBoundsException" tx) : W p l e R s m args below meth c H locs cells slots Q (F0 m pc ls (.int i :: .ref a :: rest)) := by
  intro T hT X
  obtain ⟨t, st, q⟩ := k _ rfl T hT X
  refine ⟨t, ?_, q⟩
  have h1 := X.ialoadOut hexec (by rw [hT]; exact hP q0 _ ha) ((hK.2 t0 _ ht).1 n (fun j => .int (f j))) (j := i) (by show (i < 0 ∨ (arrV _ _ _).slots.size ≤ _); rw [arrV_size]; exact Classical.byContradiction hout) (g := F0 m pc ls (.int i :: .ref a :: rest)) rfl (rest := rest) rfl (by rw [hb]; exact hdg) t
  simp only [arrV_size] at h1
  exact h1 st
theorem vx_iastZ {D : va_G} {cl : List vw_C} {ws : va_W} {tys : List (ClassId × FieldType)} {a : Nat} (hexec : p.tables.exec = Jvm.exec) (hb : c.code = cc) (hK : va_K D cl tys s) (hP : va_P D cl ws H) (q0 t0 : Nat) {cA : ClassId} {n : Nat} {f : Nat → Int32} (ha : ws[q0]? = some (a, .inl (cA, n, .inl f))) (ht : tys[t0]? = some (cA, .int)) {i : Int32} {x : Int32} (hout : ¬ vp_in i n) (hdg : decode cc pc = .ok (.iastore, 1))
    (k : ∀ tx : String, tx = (toString "Index " ++ toString i ++ toString " out of bounds for length " ++ toString n : String) → vx_Note p l e R s m args below meth c H locs cells slots Q (F0 m pc ls rest) "java/lang/ArrayIndexOutOfBoundsException" tx) : W p l e R s m args below meth c H locs cells slots Q (F0 m pc ls (.int x :: .int i :: .ref a :: rest)) := by
  intro T hT X
  obtain ⟨t, st, q⟩ := k _ rfl T hT X
  refine ⟨t, ?_, q⟩
  have h1 := X.iastoreOut hexec (by rw [hT]; exact hP q0 _ ha) ((hK.2 t0 _ ht).1 n (fun j => .int (f j))) (j := i) (by show (i < 0 ∨ (arrV _ _ _).slots.size ≤ _); rw [arrV_size]; exact Classical.byContradiction hout) (g := F0 m pc ls (.int x :: .int i :: .ref a :: rest)) rfl (rest := rest) rfl (by rw [hb]; exact hdg) t
  simp only [arrV_size] at h1
  exact h1 st
theorem vx_baldZ {D : va_G} {cl : List vw_C} {ws : va_W} {tys : List (ClassId × FieldType)} {a : Nat} (hexec : p.tables.exec = Jvm.exec) (hb : c.code = cc) (hK : va_K D cl tys s) (hP : va_P D cl ws H) (q0 t0 : Nat) {cA : ClassId} {n : Nat} {f : Nat → Int32} (ha : ws[q0]? = some (a, .inl (cA, n, .inl f))) (ht : tys[t0]? = some (cA, .byte)) {i : Int32} (hout : ¬ vp_in i n) (hdg : decode cc pc = .ok (.baload, 1))
    (k : ∀ tx : String, tx = (toString "Index " ++ toString i ++ toString " out of bounds for length " ++ toString n : String) → vx_Note p l e R s m args below meth c H locs cells slots Q (F0 m pc ls rest) "java/lang/ArrayIndexOutOfBoundsException" tx) : W p l e R s m args below meth c H locs cells slots Q (F0 m pc ls (.int i :: .ref a :: rest)) := by
  intro T hT X
  obtain ⟨t, st, q⟩ := k _ rfl T hT X
  refine ⟨t, ?_, q⟩
  have h1 := X.baloadOut hexec (by rw [hT]; exact hP q0 _ ha) ((hK.2 t0 _ ht).1 n (fun j => .int (f j))) (j := i) (by show (i < 0 ∨ (arrV _ _ _).slots.size ≤ _); rw [arrV_size]; exact Classical.byContradiction hout) (g := F0 m pc ls (.int i :: .ref a :: rest)) rfl (rest := rest) rfl (by rw [hb]; exact hdg) t
  simp only [arrV_size] at h1
  exact h1 st
theorem vx_bastZ {D : va_G} {cl : List vw_C} {ws : va_W} {tys : List (ClassId × FieldType)} {a : Nat} (hexec : p.tables.exec = Jvm.exec) (hb : c.code = cc) (hK : va_K D cl tys s) (hP : va_P D cl ws H) (q0 t0 : Nat) {cA : ClassId} {n : Nat} {f : Nat → Int32} (ha : ws[q0]? = some (a, .inl (cA, n, .inl f))) (ht : tys[t0]? = some (cA, .byte)) {i : Int32} {x : Int32} (hout : ¬ vp_in i n) (hdg : decode cc pc = .ok (.bastore, 1))
    (k : ∀ tx : String, tx = (toString "Index " ++ toString i ++ toString " out of bounds for length " ++ toString n : String) → vx_Note p l e R s m args below meth c H locs cells slots Q (F0 m pc ls rest) "java/lang/ArrayIndexOutOfBoundsException" tx) : W p l e R s m args below meth c H locs cells slots Q (F0 m pc ls (.int x :: .int i :: .ref a :: rest)) := by
  intro T hT X
  obtain ⟨t, st, q⟩ := k _ rfl T hT X
  refine ⟨t, ?_, q⟩
  have h1 := X.bastoreOut hexec (by rw [hT]; exact hP q0 _ ha) ((hK.2 t0 _ ht).1 n (fun j => .int (f j))) (j := i) (by show (i < 0 ∨ (arrV _ _ _).slots.size ≤ _); rw [arrV_size]; exact Classical.byContradiction hout) (g := F0 m pc ls (.int x :: .int i :: .ref a :: rest)) rfl (rest := rest) rfl (by rw [hb]; exact hdg) t
  simp only [arrV_size] at h1
  exact h1 st
theorem vx_zaldZ {D : va_G} {cl : List vw_C} {ws : va_W} {tys : List (ClassId × FieldType)} {a : Nat} (hexec : p.tables.exec = Jvm.exec) (hb : c.code = cc) (hK : va_K D cl tys s) (hP : va_P D cl ws H) (q0 t0 : Nat) {cA : ClassId} {n : Nat} {f : Nat → Int32} (ha : ws[q0]? = some (a, .inl (cA, n, .inl f))) (ht : tys[t0]? = some (cA, .boolean)) {i : Int32} (hout : ¬ vp_in i n) (hdg : decode cc pc = .ok (.baload, 1))
    (k : ∀ tx : String, tx = (toString "Index " ++ toString i ++ toString " out of bounds for length " ++ toString n : String) → vx_Note p l e R s m args below meth c H locs cells slots Q (F0 m pc ls rest) "java/lang/ArrayIndexOutOfBoundsException" tx) : W p l e R s m args below meth c H locs cells slots Q (F0 m pc ls (.int i :: .ref a :: rest)) := by
  intro T hT X
  obtain ⟨t, st, q⟩ := k _ rfl T hT X
  refine ⟨t, ?_, q⟩
  have h1 := X.baloadOut hexec (by rw [hT]; exact hP q0 _ ha) ((hK.2 t0 _ ht).1 n (fun j => .int (f j))) (j := i) (by show (i < 0 ∨ (arrV _ _ _).slots.size ≤ _); rw [arrV_size]; exact Classical.byContradiction hout) (g := F0 m pc ls (.int i :: .ref a :: rest)) rfl (rest := rest) rfl (by rw [hb]; exact hdg) t
  simp only [arrV_size] at h1
  exact h1 st
theorem vx_zastZ {D : va_G} {cl : List vw_C} {ws : va_W} {tys : List (ClassId × FieldType)} {a : Nat} (hexec : p.tables.exec = Jvm.exec) (hb : c.code = cc) (hK : va_K D cl tys s) (hP : va_P D cl ws H) (q0 t0 : Nat) {cA : ClassId} {n : Nat} {f : Nat → Int32} (ha : ws[q0]? = some (a, .inl (cA, n, .inl f))) (ht : tys[t0]? = some (cA, .boolean)) {i : Int32} {x : Int32} (hout : ¬ vp_in i n) (hdg : decode cc pc = .ok (.bastore, 1))
    (k : ∀ tx : String, tx = (toString "Index " ++ toString i ++ toString " out of bounds for length " ++ toString n : String) → vx_Note p l e R s m args below meth c H locs cells slots Q (F0 m pc ls rest) "java/lang/ArrayIndexOutOfBoundsException" tx) : W p l e R s m args below meth c H locs cells slots Q (F0 m pc ls (.int x :: .int i :: .ref a :: rest)) := by
  intro T hT X
  obtain ⟨t, st, q⟩ := k _ rfl T hT X
  refine ⟨t, ?_, q⟩
  have h1 := X.bastoreOut hexec (by rw [hT]; exact hP q0 _ ha) ((hK.2 t0 _ ht).1 n (fun j => .int (f j))) (j := i) (by show (i < 0 ∨ (arrV _ _ _).slots.size ≤ _); rw [arrV_size]; exact Classical.byContradiction hout) (g := F0 m pc ls (.int x :: .int i :: .ref a :: rest)) rfl (rest := rest) rfl (by rw [hb]; exact hdg) t
  simp only [arrV_size] at h1
  exact h1 st
theorem vx_caldZ {D : va_G} {cl : List vw_C} {ws : va_W} {tys : List (ClassId × FieldType)} {a : Nat} (hexec : p.tables.exec = Jvm.exec) (hb : c.code = cc) (hK : va_K D cl tys s) (hP : va_P D cl ws H) (q0 t0 : Nat) {cA : ClassId} {n : Nat} {f : Nat → Int32} (ha : ws[q0]? = some (a, .inl (cA, n, .inl f))) (ht : tys[t0]? = some (cA, .char)) {i : Int32} (hout : ¬ vp_in i n) (hdg : decode cc pc = .ok (.caload, 1))
    (k : ∀ tx : String, tx = (toString "Index " ++ toString i ++ toString " out of bounds for length " ++ toString n : String) → vx_Note p l e R s m args below meth c H locs cells slots Q (F0 m pc ls rest) "java/lang/ArrayIndexOutOfBoundsException" tx) : W p l e R s m args below meth c H locs cells slots Q (F0 m pc ls (.int i :: .ref a :: rest)) := by
  intro T hT X
  obtain ⟨t, st, q⟩ := k _ rfl T hT X
  refine ⟨t, ?_, q⟩
  have h1 := X.caloadOut hexec (by rw [hT]; exact hP q0 _ ha) ((hK.2 t0 _ ht).1 n (fun j => .int (f j))) (j := i) (by show (i < 0 ∨ (arrV _ _ _).slots.size ≤ _); rw [arrV_size]; exact Classical.byContradiction hout) (g := F0 m pc ls (.int i :: .ref a :: rest)) rfl (rest := rest) rfl (by rw [hb]; exact hdg) t
  simp only [arrV_size] at h1
  exact h1 st
theorem vx_castZ {D : va_G} {cl : List vw_C} {ws : va_W} {tys : List (ClassId × FieldType)} {a : Nat} (hexec : p.tables.exec = Jvm.exec) (hb : c.code = cc) (hK : va_K D cl tys s) (hP : va_P D cl ws H) (q0 t0 : Nat) {cA : ClassId} {n : Nat} {f : Nat → Int32} (ha : ws[q0]? = some (a, .inl (cA, n, .inl f))) (ht : tys[t0]? = some (cA, .char)) {i : Int32} {x : Int32} (hout : ¬ vp_in i n) (hdg : decode cc pc = .ok (.castore, 1))
    (k : ∀ tx : String, tx = (toString "Index " ++ toString i ++ toString " out of bounds for length " ++ toString n : String) → vx_Note p l e R s m args below meth c H locs cells slots Q (F0 m pc ls rest) "java/lang/ArrayIndexOutOfBoundsException" tx) : W p l e R s m args below meth c H locs cells slots Q (F0 m pc ls (.int x :: .int i :: .ref a :: rest)) := by
  intro T hT X
  obtain ⟨t, st, q⟩ := k _ rfl T hT X
  refine ⟨t, ?_, q⟩
  have h1 := X.castoreOut hexec (by rw [hT]; exact hP q0 _ ha) ((hK.2 t0 _ ht).1 n (fun j => .int (f j))) (j := i) (by show (i < 0 ∨ (arrV _ _ _).slots.size ≤ _); rw [arrV_size]; exact Classical.byContradiction hout) (g := F0 m pc ls (.int x :: .int i :: .ref a :: rest)) rfl (rest := rest) rfl (by rw [hb]; exact hdg) t
  simp only [arrV_size] at h1
  exact h1 st
theorem vx_saldZ {D : va_G} {cl : List vw_C} {ws : va_W} {tys : List (ClassId × FieldType)} {a : Nat} (hexec : p.tables.exec = Jvm.exec) (hb : c.code = cc) (hK : va_K D cl tys s) (hP : va_P D cl ws H) (q0 t0 : Nat) {cA : ClassId} {n : Nat} {f : Nat → Int32} (ha : ws[q0]? = some (a, .inl (cA, n, .inl f))) (ht : tys[t0]? = some (cA, .short)) {i : Int32} (hout : ¬ vp_in i n) (hdg : decode cc pc = .ok (.saload, 1))
    (k : ∀ tx : String, tx = (toString "Index " ++ toString i ++ toString " out of bounds for length " ++ toString n : String) → vx_Note p l e R s m args below meth c H locs cells slots Q (F0 m pc ls rest) "java/lang/ArrayIndexOutOfBoundsException" tx) : W p l e R s m args below meth c H locs cells slots Q (F0 m pc ls (.int i :: .ref a :: rest)) := by
  intro T hT X
  obtain ⟨t, st, q⟩ := k _ rfl T hT X
  refine ⟨t, ?_, q⟩
  have h1 := X.saloadOut hexec (by rw [hT]; exact hP q0 _ ha) ((hK.2 t0 _ ht).1 n (fun j => .int (f j))) (j := i) (by show (i < 0 ∨ (arrV _ _ _).slots.size ≤ _); rw [arrV_size]; exact Classical.byContradiction hout) (g := F0 m pc ls (.int i :: .ref a :: rest)) rfl (rest := rest) rfl (by rw [hb]; exact hdg) t
  simp only [arrV_size] at h1
  exact h1 st
theorem vx_sastZ {D : va_G} {cl : List vw_C} {ws : va_W} {tys : List (ClassId × FieldType)} {a : Nat} (hexec : p.tables.exec = Jvm.exec) (hb : c.code = cc) (hK : va_K D cl tys s) (hP : va_P D cl ws H) (q0 t0 : Nat) {cA : ClassId} {n : Nat} {f : Nat → Int32} (ha : ws[q0]? = some (a, .inl (cA, n, .inl f))) (ht : tys[t0]? = some (cA, .short)) {i : Int32} {x : Int32} (hout : ¬ vp_in i n) (hdg : decode cc pc = .ok (.sastore, 1))
    (k : ∀ tx : String, tx = (toString "Index " ++ toString i ++ toString " out of bounds for length " ++ toString n : String) → vx_Note p l e R s m args below meth c H locs cells slots Q (F0 m pc ls rest) "java/lang/ArrayIndexOutOfBoundsException" tx) : W p l e R s m args below meth c H locs cells slots Q (F0 m pc ls (.int x :: .int i :: .ref a :: rest)) := by
  intro T hT X
  obtain ⟨t, st, q⟩ := k _ rfl T hT X
  refine ⟨t, ?_, q⟩
  have h1 := X.sastoreOut hexec (by rw [hT]; exact hP q0 _ ha) ((hK.2 t0 _ ht).1 n (fun j => .int (f j))) (j := i) (by show (i < 0 ∨ (arrV _ _ _).slots.size ≤ _); rw [arrV_size]; exact Classical.byContradiction hout) (g := F0 m pc ls (.int x :: .int i :: .ref a :: rest)) rfl (rest := rest) rfl (by rw [hb]; exact hdg) t
  simp only [arrV_size] at h1
  exact h1 st
theorem vx_laldZ {D : va_G} {cl : List vw_C} {ws : va_W} {tys : List (ClassId × FieldType)} {a : Nat} (hexec : p.tables.exec = Jvm.exec) (hb : c.code = cc) (hK : va_K D cl tys s) (hP : va_P D cl ws H) (q0 t0 : Nat) {cA : ClassId} {n : Nat} {f : Nat → Int64} (ha : ws[q0]? = some (a, .inl (cA, n, .inr (.inl f)))) (ht : tys[t0]? = some (cA, .long)) {i : Int32} (hout : ¬ vp_in i n) (hdg : decode cc pc = .ok (.laload, 1))
    (k : ∀ tx : String, tx = (toString "Index " ++ toString i ++ toString " out of bounds for length " ++ toString n : String) → vx_Note p l e R s m args below meth c H locs cells slots Q (F0 m pc ls rest) "java/lang/ArrayIndexOutOfBoundsException" tx) : W p l e R s m args below meth c H locs cells slots Q (F0 m pc ls (.int i :: .ref a :: rest)) := by
  intro T hT X
  obtain ⟨t, st, q⟩ := k _ rfl T hT X
  refine ⟨t, ?_, q⟩
  have h1 := X.laloadOut hexec (by rw [hT]; exact hP q0 _ ha) ((hK.2 t0 _ ht).1 n (fun j => .long (f j))) (j := i) (by show (i < 0 ∨ (arrV _ _ _).slots.size ≤ _); rw [arrV_size]; exact Classical.byContradiction hout) (g := F0 m pc ls (.int i :: .ref a :: rest)) rfl (rest := rest) rfl (by rw [hb]; exact hdg) t
  simp only [arrV_size] at h1
  exact h1 st
theorem vx_lastZ {D : va_G} {cl : List vw_C} {ws : va_W} {tys : List (ClassId × FieldType)} {a : Nat} (hexec : p.tables.exec = Jvm.exec) (hb : c.code = cc) (hK : va_K D cl tys s) (hP : va_P D cl ws H) (q0 t0 : Nat) {cA : ClassId} {n : Nat} {f : Nat → Int64} (ha : ws[q0]? = some (a, .inl (cA, n, .inr (.inl f)))) (ht : tys[t0]? = some (cA, .long)) {i : Int32} {x : Int64} (hout : ¬ vp_in i n) (hdg : decode cc pc = .ok (.lastore, 1))
    (k : ∀ tx : String, tx = (toString "Index " ++ toString i ++ toString " out of bounds for length " ++ toString n : String) → vx_Note p l e R s m args below meth c H locs cells slots Q (F0 m pc ls rest) "java/lang/ArrayIndexOutOfBoundsException" tx) : W p l e R s m args below meth c H locs cells slots Q (F0 m pc ls (.long x :: .int i :: .ref a :: rest)) := by
  intro T hT X
  obtain ⟨t, st, q⟩ := k _ rfl T hT X
  refine ⟨t, ?_, q⟩
  have h1 := X.lastoreOut hexec (by rw [hT]; exact hP q0 _ ha) ((hK.2 t0 _ ht).1 n (fun j => .long (f j))) (j := i) (by show (i < 0 ∨ (arrV _ _ _).slots.size ≤ _); rw [arrV_size]; exact Classical.byContradiction hout) (g := F0 m pc ls (.long x :: .int i :: .ref a :: rest)) rfl (rest := rest) rfl (by rw [hb]; exact hdg) t
  simp only [arrV_size] at h1
  exact h1 st
theorem vx_faldZ {D : va_G} {cl : List vw_C} {ws : va_W} {tys : List (ClassId × FieldType)} {a : Nat} (hexec : p.tables.exec = Jvm.exec) (hb : c.code = cc) (hK : va_K D cl tys s) (hP : va_P D cl ws H) (q0 t0 : Nat) {cA : ClassId} {n : Nat} {f : Nat → UInt32} (ha : ws[q0]? = some (a, .inl (cA, n, .inr (.inr (.inl f))))) (ht : tys[t0]? = some (cA, .float)) {i : Int32} (hout : ¬ vp_in i n) (hdg : decode cc pc = .ok (.faload, 1))
    (k : ∀ tx : String, tx = (toString "Index " ++ toString i ++ toString " out of bounds for length " ++ toString n : String) → vx_Note p l e R s m args below meth c H locs cells slots Q (F0 m pc ls rest) "java/lang/ArrayIndexOutOfBoundsException" tx) : W p l e R s m args below meth c H locs cells slots Q (F0 m pc ls (.int i :: .ref a :: rest)) := by
  intro T hT X
  obtain ⟨t, st, q⟩ := k _ rfl T hT X
  refine ⟨t, ?_, q⟩
  have h1 := X.faloadOut hexec (by rw [hT]; exact hP q0 _ ha) ((hK.2 t0 _ ht).1 n (fun j => .float (f j))) (j := i) (by show (i < 0 ∨ (arrV _ _ _).slots.size ≤ _); rw [arrV_size]; exact Classical.byContradiction hout) (g := F0 m pc ls (.int i :: .ref a :: rest)) rfl (rest := rest) rfl (by rw [hb]; exact hdg) t
  simp only [arrV_size] at h1
  exact h1 st
theorem vx_fastZ {D : va_G} {cl : List vw_C} {ws : va_W} {tys : List (ClassId × FieldType)} {a : Nat} (hexec : p.tables.exec = Jvm.exec) (hb : c.code = cc) (hK : va_K D cl tys s) (hP : va_P D cl ws H) (q0 t0 : Nat) {cA : ClassId} {n : Nat} {f : Nat → UInt32} (ha : ws[q0]? = some (a, .inl (cA, n, .inr (.inr (.inl f))))) (ht : tys[t0]? = some (cA, .float)) {i : Int32} {x : UInt32} (hout : ¬ vp_in i n) (hdg : decode cc pc = .ok (.fastore, 1))
    (k : ∀ tx : String, tx = (toString "Index " ++ toString i ++ toString " out of bounds for length " ++ toString n : String) → vx_Note p l e R s m args below meth c H locs cells slots Q (F0 m pc ls rest) "java/lang/ArrayIndexOutOfBoundsException" tx) : W p l e R s m args below meth c H locs cells slots Q (F0 m pc ls (.float x :: .int i :: .ref a :: rest)) := by
  intro T hT X
  obtain ⟨t, st, q⟩ := k _ rfl T hT X
  refine ⟨t, ?_, q⟩
  have h1 := X.fastoreOut hexec (by rw [hT]; exact hP q0 _ ha) ((hK.2 t0 _ ht).1 n (fun j => .float (f j))) (j := i) (by show (i < 0 ∨ (arrV _ _ _).slots.size ≤ _); rw [arrV_size]; exact Classical.byContradiction hout) (g := F0 m pc ls (.float x :: .int i :: .ref a :: rest)) rfl (rest := rest) rfl (by rw [hb]; exact hdg) t
  simp only [arrV_size] at h1
  exact h1 st
theorem vx_daldZ {D : va_G} {cl : List vw_C} {ws : va_W} {tys : List (ClassId × FieldType)} {a : Nat} (hexec : p.tables.exec = Jvm.exec) (hb : c.code = cc) (hK : va_K D cl tys s) (hP : va_P D cl ws H) (q0 t0 : Nat) {cA : ClassId} {n : Nat} {f : Nat → UInt64} (ha : ws[q0]? = some (a, .inl (cA, n, .inr (.inr (.inr (.inl f)))))) (ht : tys[t0]? = some (cA, .double)) {i : Int32} (hout : ¬ vp_in i n) (hdg : decode cc pc = .ok (.daload, 1))
    (k : ∀ tx : String, tx = (toString "Index " ++ toString i ++ toString " out of bounds for length " ++ toString n : String) → vx_Note p l e R s m args below meth c H locs cells slots Q (F0 m pc ls rest) "java/lang/ArrayIndexOutOfBoundsException" tx) : W p l e R s m args below meth c H locs cells slots Q (F0 m pc ls (.int i :: .ref a :: rest)) := by
  intro T hT X
  obtain ⟨t, st, q⟩ := k _ rfl T hT X
  refine ⟨t, ?_, q⟩
  have h1 := X.daloadOut hexec (by rw [hT]; exact hP q0 _ ha) ((hK.2 t0 _ ht).1 n (fun j => .double (f j))) (j := i) (by show (i < 0 ∨ (arrV _ _ _).slots.size ≤ _); rw [arrV_size]; exact Classical.byContradiction hout) (g := F0 m pc ls (.int i :: .ref a :: rest)) rfl (rest := rest) rfl (by rw [hb]; exact hdg) t
  simp only [arrV_size] at h1
  exact h1 st
theorem vx_dastZ {D : va_G} {cl : List vw_C} {ws : va_W} {tys : List (ClassId × FieldType)} {a : Nat} (hexec : p.tables.exec = Jvm.exec) (hb : c.code = cc) (hK : va_K D cl tys s) (hP : va_P D cl ws H) (q0 t0 : Nat) {cA : ClassId} {n : Nat} {f : Nat → UInt64} (ha : ws[q0]? = some (a, .inl (cA, n, .inr (.inr (.inr (.inl f)))))) (ht : tys[t0]? = some (cA, .double)) {i : Int32} {x : UInt64} (hout : ¬ vp_in i n) (hdg : decode cc pc = .ok (.dastore, 1))
    (k : ∀ tx : String, tx = (toString "Index " ++ toString i ++ toString " out of bounds for length " ++ toString n : String) → vx_Note p l e R s m args below meth c H locs cells slots Q (F0 m pc ls rest) "java/lang/ArrayIndexOutOfBoundsException" tx) : W p l e R s m args below meth c H locs cells slots Q (F0 m pc ls (.double x :: .int i :: .ref a :: rest)) := by
  intro T hT X
  obtain ⟨t, st, q⟩ := k _ rfl T hT X
  refine ⟨t, ?_, q⟩
  have h1 := X.dastoreOut hexec (by rw [hT]; exact hP q0 _ ha) ((hK.2 t0 _ ht).1 n (fun j => .double (f j))) (j := i) (by show (i < 0 ∨ (arrV _ _ _).slots.size ≤ _); rw [arrV_size]; exact Classical.byContradiction hout) (g := F0 m pc ls (.double x :: .int i :: .ref a :: rest)) rfl (rest := rest) rfl (by rw [hb]; exact hdg) t
  simp only [arrV_size] at h1
  exact h1 st
theorem vx_arraylengthN (hexec : p.tables.exec = Jvm.exec) (hb : c.code = cc) (hdg : decode cc pc = .ok (.arraylength, 1)) (k : vx_NoteN p l e R s m args below meth c H locs cells slots Q (F0 m pc ls rest)) : W p l e R s m args below meth c H locs cells slots Q (F0 m pc ls (.null :: rest)) := by
  intro T hT X
  obtain ⟨t, st, q⟩ := k T hT X
  exact ⟨t, X.arraylengthNull hexec (g := F0 m pc ls (.null :: rest)) rfl (rest := rest) rfl (by rw [hb]; exact hdg) t st, q⟩
theorem vx_ialoadN (hexec : p.tables.exec = Jvm.exec) (hb : c.code = cc) {i : Int32} (hdg : decode cc pc = .ok (.iaload, 1)) (k : vx_NoteN p l e R s m args below meth c H locs cells slots Q (F0 m pc ls rest)) : W p l e R s m args below meth c H locs cells slots Q (F0 m pc ls (.int i :: .null :: rest)) := by
  intro T hT X
  obtain ⟨t, st, q⟩ := k T hT X
  exact ⟨t, X.ialoadNull hexec (g := F0 m pc ls (.int i :: .null :: rest)) rfl (rest := rest) rfl (by rw [hb]; exact hdg) t st, q⟩
theorem vx_laloadN (hexec : p.tables.exec = Jvm.exec) (hb : c.code = cc) {i : Int32} (hdg : decode cc pc = .ok (.laload, 1)) (k : vx_NoteN p l e R s m args below meth c H locs cells slots Q (F0 m pc ls rest)) : W p l e R s m args below meth c H locs cells slots Q (F0 m pc ls (.int i :: .null :: rest)) := by
  intro T hT X
  obtain ⟨t, st, q⟩ := k T hT X
  exact ⟨t, X.laloadNull hexec (g := F0 m pc ls (.int i :: .null :: rest)) rfl (rest := rest) rfl (by rw [hb]; exact hdg) t st, q⟩
theorem vx_faloadN (hexec : p.tables.exec = Jvm.exec) (hb : c.code = cc) {i : Int32} (hdg : decode cc pc = .ok (.faload, 1)) (k : vx_NoteN p l e R s m args below meth c H locs cells slots Q (F0 m pc ls rest)) : W p l e R s m args below meth c H locs cells slots Q (F0 m pc ls (.int i :: .null :: rest)) := by
  intro T hT X
  obtain ⟨t, st, q⟩ := k T hT X
  exact ⟨t, X.faloadNull hexec (g := F0 m pc ls (.int i :: .null :: rest)) rfl (rest := rest) rfl (by rw [hb]; exact hdg) t st, q⟩
theorem vx_daloadN (hexec : p.tables.exec = Jvm.exec) (hb : c.code = cc) {i : Int32} (hdg : decode cc pc = .ok (.daload, 1)) (k : vx_NoteN p l e R s m args below meth c H locs cells slots Q (F0 m pc ls rest)) : W p l e R s m args below meth c H locs cells slots Q (F0 m pc ls (.int i :: .null :: rest)) := by
  intro T hT X
  obtain ⟨t, st, q⟩ := k T hT X
  exact ⟨t, X.daloadNull hexec (g := F0 m pc ls (.int i :: .null :: rest)) rfl (rest := rest) rfl (by rw [hb]; exact hdg) t st, q⟩
theorem vx_aaloadN (hexec : p.tables.exec = Jvm.exec) (hb : c.code = cc) {i : Int32} (hdg : decode cc pc = .ok (.aaload, 1)) (k : vx_NoteN p l e R s m args below meth c H locs cells slots Q (F0 m pc ls rest)) : W p l e R s m args below meth c H locs cells slots Q (F0 m pc ls (.int i :: .null :: rest)) := by
  intro T hT X
  obtain ⟨t, st, q⟩ := k T hT X
  exact ⟨t, X.aaloadNull hexec (g := F0 m pc ls (.int i :: .null :: rest)) rfl (rest := rest) rfl (by rw [hb]; exact hdg) t st, q⟩
theorem vx_baloadN (hexec : p.tables.exec = Jvm.exec) (hb : c.code = cc) {i : Int32} (hdg : decode cc pc = .ok (.baload, 1)) (k : vx_NoteN p l e R s m args below meth c H locs cells slots Q (F0 m pc ls rest)) : W p l e R s m args below meth c H locs cells slots Q (F0 m pc ls (.int i :: .null :: rest)) := by
  intro T hT X
  obtain ⟨t, st, q⟩ := k T hT X
  exact ⟨t, X.baloadNull hexec (g := F0 m pc ls (.int i :: .null :: rest)) rfl (rest := rest) rfl (by rw [hb]; exact hdg) t st, q⟩
theorem vx_caloadN (hexec : p.tables.exec = Jvm.exec) (hb : c.code = cc) {i : Int32} (hdg : decode cc pc = .ok (.caload, 1)) (k : vx_NoteN p l e R s m args below meth c H locs cells slots Q (F0 m pc ls rest)) : W p l e R s m args below meth c H locs cells slots Q (F0 m pc ls (.int i :: .null :: rest)) := by
  intro T hT X
  obtain ⟨t, st, q⟩ := k T hT X
  exact ⟨t, X.caloadNull hexec (g := F0 m pc ls (.int i :: .null :: rest)) rfl (rest := rest) rfl (by rw [hb]; exact hdg) t st, q⟩
theorem vx_saloadN (hexec : p.tables.exec = Jvm.exec) (hb : c.code = cc) {i : Int32} (hdg : decode cc pc = .ok (.saload, 1)) (k : vx_NoteN p l e R s m args below meth c H locs cells slots Q (F0 m pc ls rest)) : W p l e R s m args below meth c H locs cells slots Q (F0 m pc ls (.int i :: .null :: rest)) := by
  intro T hT X
  obtain ⟨t, st, q⟩ := k T hT X
  exact ⟨t, X.saloadNull hexec (g := F0 m pc ls (.int i :: .null :: rest)) rfl (rest := rest) rfl (by rw [hb]; exact hdg) t st, q⟩
theorem vx_iastoreN (hexec : p.tables.exec = Jvm.exec) (hb : c.code = cc) {x : Int32} {i : Int32} (hdg : decode cc pc = .ok (.iastore, 1)) (k : vx_NoteN p l e R s m args below meth c H locs cells slots Q (F0 m pc ls rest)) : W p l e R s m args below meth c H locs cells slots Q (F0 m pc ls (.int x :: .int i :: .null :: rest)) := by
  intro T hT X
  obtain ⟨t, st, q⟩ := k T hT X
  exact ⟨t, X.iastoreNull hexec (g := F0 m pc ls (.int x :: .int i :: .null :: rest)) rfl (rest := rest) rfl (by rw [hb]; exact hdg) t st, q⟩
theorem vx_lastoreN (hexec : p.tables.exec = Jvm.exec) (hb : c.code = cc) {x : Int64} {i : Int32} (hdg : decode cc pc = .ok (.lastore, 1)) (k : vx_NoteN p l e R s m args below meth c H locs cells slots Q (F0 m pc ls rest)) : W p l e R s m args below meth c H locs cells slots Q (F0 m pc ls (.long x :: .int i :: .null :: rest)) := by
  intro T hT X
  obtain ⟨t, st, q⟩ := k T hT X
  exact ⟨t, X.lastoreNull hexec (g := F0 m pc ls (.long x :: .int i :: .null :: rest)) rfl (rest := rest) rfl (by rw [hb]; exact hdg) t st, q⟩
theorem vx_fastoreN (hexec : p.tables.exec = Jvm.exec) (hb : c.code = cc) {x : UInt32} {i : Int32} (hdg : decode cc pc = .ok (.fastore, 1)) (k : vx_NoteN p l e R s m args below meth c H locs cells slots Q (F0 m pc ls rest)) : W p l e R s m args below meth c H locs cells slots Q (F0 m pc ls (.float x :: .int i :: .null :: rest)) := by
  intro T hT X
  obtain ⟨t, st, q⟩ := k T hT X
  exact ⟨t, X.fastoreNull hexec (g := F0 m pc ls (.float x :: .int i :: .null :: rest)) rfl (rest := rest) rfl (by rw [hb]; exact hdg) t st, q⟩
theorem vx_dastoreN (hexec : p.tables.exec = Jvm.exec) (hb : c.code = cc) {x : UInt64} {i : Int32} (hdg : decode cc pc = .ok (.dastore, 1)) (k : vx_NoteN p l e R s m args below meth c H locs cells slots Q (F0 m pc ls rest)) : W p l e R s m args below meth c H locs cells slots Q (F0 m pc ls (.double x :: .int i :: .null :: rest)) := by
  intro T hT X
  obtain ⟨t, st, q⟩ := k T hT X
  exact ⟨t, X.dastoreNull hexec (g := F0 m pc ls (.double x :: .int i :: .null :: rest)) rfl (rest := rest) rfl (by rw [hb]; exact hdg) t st, q⟩
theorem vx_bastoreN (hexec : p.tables.exec = Jvm.exec) (hb : c.code = cc) {x : Int32} {i : Int32} (hdg : decode cc pc = .ok (.bastore, 1)) (k : vx_NoteN p l e R s m args below meth c H locs cells slots Q (F0 m pc ls rest)) : W p l e R s m args below meth c H locs cells slots Q (F0 m pc ls (.int x :: .int i :: .null :: rest)) := by
  intro T hT X
  obtain ⟨t, st, q⟩ := k T hT X
  exact ⟨t, X.bastoreNull hexec (g := F0 m pc ls (.int x :: .int i :: .null :: rest)) rfl (rest := rest) rfl (by rw [hb]; exact hdg) t st, q⟩
theorem vx_castoreN (hexec : p.tables.exec = Jvm.exec) (hb : c.code = cc) {x : Int32} {i : Int32} (hdg : decode cc pc = .ok (.castore, 1)) (k : vx_NoteN p l e R s m args below meth c H locs cells slots Q (F0 m pc ls rest)) : W p l e R s m args below meth c H locs cells slots Q (F0 m pc ls (.int x :: .int i :: .null :: rest)) := by
  intro T hT X
  obtain ⟨t, st, q⟩ := k T hT X
  exact ⟨t, X.castoreNull hexec (g := F0 m pc ls (.int x :: .int i :: .null :: rest)) rfl (rest := rest) rfl (by rw [hb]; exact hdg) t st, q⟩
theorem vx_sastoreN (hexec : p.tables.exec = Jvm.exec) (hb : c.code = cc) {x : Int32} {i : Int32} (hdg : decode cc pc = .ok (.sastore, 1)) (k : vx_NoteN p l e R s m args below meth c H locs cells slots Q (F0 m pc ls rest)) : W p l e R s m args below meth c H locs cells slots Q (F0 m pc ls (.int x :: .int i :: .null :: rest)) := by
  intro T hT X
  obtain ⟨t, st, q⟩ := k T hT X
  exact ⟨t, X.sastoreNull hexec (g := F0 m pc ls (.int x :: .int i :: .null :: rest)) rfl (rest := rest) rfl (by rw [hb]; exact hdg) t st, q⟩
theorem vx_invokeN {own C : String} {index maxL : Nat} {y : MethodName} {bytes : ByteArray} {ret : Option FieldType} (hexec : p.tables.exec = Jvm.exec) (hb : c.code = cc) (hown : s.vm.findClass own = some m.cls) (hlink : (Cond.methodLink own index y).before args s = true) (hinst : (Cond.instanceMethod y).before args s = true) (hcode : (Cond.code y bytes maxL ret).before args s = true) (hsel : (Cond.selects C y y).before args s = true)
    (hx : y.cls ≠ "java/lang/invoke/MethodHandle" ∧ y.cls ≠ "java/lang/invoke/VarHandle") {As : List Value} (hlen : (parseMethodDescriptor y.desc).map (fun d => d.parameters.length) = some As.length) (hdg : decode cc pc = .ok (.invokevirtual index, 3))
    (k : vx_NoteN p l e R s m args below meth c H locs cells slots Q (F0 m pc ls rest)) {st0 : List Value} (hst : st0 = As.reverse ++ .null :: rest) : W p l e R s m args below meth c H locs cells slots Q (F0 m pc ls st0) := by
  intro T hT X
  obtain ⟨r0, r, hn, hrm, hstR, hsigR⟩ := va_Decl.of hinst hcode
  obtain ⟨c2, r2, m2, q1, q2, q3, q4, kP, hkP, hkPi⟩ := Cond.selects_spec hsel
  cases hn.symm.trans q3
  have hl9 : As.length = r.sig.parameters.length := by
    rw [hsigR] at hlen
    exact (Option.some.inj hlen).symm
  obtain ⟨vm', X1, st1⟩ := X.invokevirtualNull hexec hown hlink hn hrm hstR hkP hkPi hx (g := F0 m pc ls st0) rfl (argsL := As) (rest := rest) hl9 hst (by rw [hb]; exact hdg)
  obtain ⟨t, st, q⟩ := k (T.setVm vm') hT X1
  exact ⟨t, st1 t st, q⟩
theorem vx_newarrayZ {atype : ArrayType} (hexec : p.tables.exec = Jvm.exec) (hb : c.code = cc) {n : Int32} (h0 : n < 0) (hdg : decode cc pc = .ok (.newarray atype, 2)) (k : ∀ tx : String, tx = toString n → vx_Note p l e R s m args below meth c H locs cells slots Q (F0 m pc ls rest) "java/lang/NegativeArraySizeException" tx) : W p l e R s m args below meth c H locs cells slots Q (F0 m pc ls (.int n :: rest)) := by
  intro T hT X
  obtain ⟨t, st, q⟩ := k _ rfl T hT X
  exact ⟨t, X.newarrayNegative hexec (g := F0 m pc ls (.int n :: rest)) rfl h0 (rest := rest) rfl (by rw [hb]; exact hdg) t st, q⟩
end
end VXM
/-! ===== END ===== -/
/-! ===== BEGIN an exception as an object: made, kept, thrown later (no traces kept) ===== -/
section VXK
variable {p : Program} {l : Launch} {e : Env} {R : Room} {s : State} {m₀ : MethodId} {args : Array Value} {below : List Frame} {meth : Method} {c : Code} {W : State} {locs : List Loc} {cells slots : Nat}
set_option maxHeartbeats 1000000 in
theorem vx_ctorMadeS (X : Stand p l e R s m₀ args below meth c W locs cells slots) (hexec : p.tables.exec = Jvm.exec) (htr : e.platform.stackTraces = false) {own cls : String} {names : List String} {ic : Nat}
    (hown : s.vm.findClass own = some m₀.cls) (hcls : Bundle.fit cls = true) (hnames : ∀ n ∈ names, Bundle.fit n = true)
    (h : ∀ a ∈ Bundle.ownAtoms own ic cls names, a.before args s = true)
    (hlocs : ∀ x ∈ locs, ∀ cell, s.heap[x.base]? = some cell → cell.vm.isStatics = false)
    {a : Addr} {cX : ClassId} {kX : Class} (hfoundX : s.vm.findClass cls = some cX) (hkX : s.vm.classes[cX]? = some kX) (hcell : W.heap[a]? = some (freshCell cX kX)) (hnew : s.heap.size ≤ a)
    {msg : Value} (hmsg : msg.isRef = true)
    {g : JFrame} (hg : g.method = m₀) (hsize : g.locals.size = c.maxLocals) {rest : List Value} (hstack : g.stack = msg :: .ref a :: .ref a :: rest)
    (hd6 : decode c.code g.pc = .ok (.invokespecial ic, 3))
    (hRframes : names.length + 3 < R.frames) (hRlocals : 2 * g.monitorRoom + ((Value.ref a :: rest).map fun v => v.category).sum + (13 * (names.length + 1) + 42) ≤ R.locals) :
    ∃ (V : State) (ce : Cell) (L : List Loc), Stand p l e R s m₀ args below meth c (V.setCell a ce) (locs ++ L) cells slots ∧ (∀ y ∈ L, y.base = a) ∧ a < V.heap.size ∧ ce.cls = cX ∧ ce.vm = .none ∧
      ∀ target, Steps p.tables e below ((V.setCell a ce).setTop { g with stack := .ref a :: rest, pc := g.pc + 3 }) target → Steps p.tables e below (W.setTop g) target := by
  have howns : e.platform.frameOwnsMonitors = true := by rw [X.admits.platform]
  have hfin : e.platform.finalization = false := by rw [X.admits.platform]
  have hpl : e.platform.magicAccessors = ({} : Platform).magicAccessors := by rw [X.admits.platform]
  have a' : ∀ x, x ∈ Bundle.ownAtoms own ic cls names → x.holds args s none s [] = true := fun x hx => h x hx
  obtain ⟨T, Z0, L, -, Y⟩ := ThrowableC.of_atoms (args := args) howns hfin hpl (fun x hx => h x (by simp [Bundle.ownAtoms, hx]))
  obtain ⟨Z, M, LZ, LM, hnZ⟩ := Init0T.ofS_atoms (args := args) hpl L Y (fun x hx => h x (by simp [Bundle.ownAtoms, hx]))
  obtain ⟨P1, Ps, hlen, L1, hL, hP1m, hlink1, hlink⟩ := Bundle.chainS (args := args) hpl hnZ names cls hcls hnames (fun x hx => h x (by simp [Bundle.ownAtoms, hx]))
  have hfound : s.vm.findClass cls = some P1.m.cls := findClass_of_methodNamed hP1m
  cases Option.some.inj (hfoundX.symm.trans hfound)
  obtain ⟨c1, kX', hc1, hk, hord, -, -, hn6⟩ := Cond.instantiable_spec (a' (.instantiable cls 6) (by simp [Bundle.ownAtoms]))
  cases Option.some.inj (hc1.symm.trans hfound)
  cases Option.some.inj (hkX.symm.trans hk)
  have hsel0 : selectMethod e.platform s.vm P1.m.cls T.fill0 = .method T.fill0 := by
    obtain ⟨c2, r2, m2, q1, q2, q3, q4, -⟩ := Cond.selects_spec (a' (.selects cls Bundle.tFill0 Bundle.tFill0) (by simp [Bundle.ownAtoms]))
    cases Option.some.inj (q1.symm.trans hfound)
    cases Option.some.inj (q2.symm.trans (State.methodFound?_of_named Y.fill0 (by decide)))
    cases Option.some.inj (q3.symm.trans Y.fill0)
    rw [Launch.admits_selectMethod X.admits]; exact q4
  have hselF : selectMethod e.platform s.vm P1.m.cls T.fill = .method T.fill := by
    obtain ⟨c2, r2, m2, q1, q2, q3, q4, -⟩ := Cond.selects_spec (a' (.selects cls Bundle.tFill Bundle.tFill) (by simp [Bundle.ownAtoms]))
    cases Option.some.inj (q1.symm.trans hfound)
    cases Option.some.inj (q2.symm.trans (State.methodFound?_of_named Y.fill (by decide)))
    cases Option.some.inj (q3.symm.trans Y.fill)
    rw [Launch.admits_selectMethod X.admits]; exact q4
  obtain ⟨cellS0, hcS0, hiss⟩ := Y.statics
  obtain ⟨u0, hu0⟩ := Cond.staticRefV Y.unassigned L.unassignedStatic L.statics hcS0 hiss (a' (.isRef (.static Bundle.tN "UNASSIGNED_STACK" Bundle.steD)) (by simp [Bundle.ownAtoms]))
  obtain ⟨sen, hsen⟩ := Cond.staticRefV Y.sentinel L.sentinelStatic L.statics hcS0 hiss (a' (.isRef (.static Bundle.tN "SUPPRESSED_SENTINEL" Bundle.listD)) (by simp [Bundle.ownAtoms]))
  obtain ⟨ci198, i198, fB, hk198, hg198, ha198, hsB, -, hnB, htB, hffB⟩ := Cond.ownField (t := .object "java/lang/Object") Y.found L.cls (by decide +kernel) (a' (.fieldLink Bundle.tN 198 Bundle.tN "backtrace" "Ljava/lang/Object;") (by simp [Bundle.ownAtoms])) (a' (.lays Bundle.tN Bundle.tN "backtrace" "Ljava/lang/Object;") (by simp [Bundle.ownAtoms])) e.platform hpl
  obtain ⟨cellS, hcS', heS, -, hkeep⟩ := X.same.2.2.2.2.2 T.aS cellS0 hcS0
  have hcellS : W.heap[T.aS]? = some cellS := hcS'
  have hout' : ∀ i, (⟨T.aS, i⟩ : Loc) ∉ locs := fun i hmem => by
    have := hlocs _ hmem cellS0 hcS0
    rw [hiss] at this; cases this
  have hknownS : cellS.vm ≠ .unknown := by
    rw [heS]; intro hu
    rw [show cellS0.vm = .unknown from hu] at hiss
    cases hiss
  have hneS : T.aS ≠ a := Nat.ne_of_lt (Nat.lt_of_lt_of_le (Array.getElem?_eq_some_iff.mp hcS0).1 hnew)
  obtain ⟨iM, hffM⟩ := Y.msg
  obtain ⟨tyC, dC, hdC, hdnC⟩ := Cond.laysAt hfound hk Y.cause (a' (.lays cls Bundle.tN "cause" "Ljava/lang/Throwable;") (by simp [Bundle.ownAtoms]))
  obtain ⟨tyS, dS, hdS, hdnS⟩ := Cond.laysAt hfound hk Y.stack (a' (.lays cls Bundle.tN "stackTrace" Bundle.steD) (by simp [Bundle.ownAtoms]))
  obtain ⟨tyP, dP, hdP, hdnP⟩ := Cond.laysAt hfound hk Y.supp (a' (.lays cls Bundle.tN "suppressedExceptions" Bundle.listD) (by simp [Bundle.ownAtoms]))
  obtain ⟨tyM, dM, hdM, hdnM⟩ := Cond.laysAt hfound hk hffM (a' (.lays cls Bundle.tN "detailMessage" "Ljava/lang/String;") (by simp [Bundle.ownAtoms]))
  obtain ⟨tyB, dB, hdB, hdnB⟩ := Cond.laysAt hfound hk hffB (a' (.lays cls Bundle.tN "backtrace" "Ljava/lang/Object;") (by simp [Bundle.ownAtoms]))
  have bC := Cond.laysApart hdB hdC hdnB hdnC (by rw [hnB, Y.causeName]; decide)
  have bS := Cond.laysApart hdB hdS hdnB hdnS (by rw [hnB, Y.stackName]; decide)
  have bP := Cond.laysApart hdB hdP hdnB hdnP (by rw [hnB, Y.suppName]; decide)
  have hskip : SkipFacts T e.platform s (fun u => u) u0 ((preparedCellV T.toThrowableT (freshCell P1.m.cls kX) a u0 sen).withEntry W.cur) :=
    ⟨{ ci198 := ci198, i198 := i198, fBack := fB }, ⟨hk198, hg198, ha198, hsB⟩, by
      have := fresh_default (c := P1.m.cls) tyB
      rw [htB] at this
      simpa [preparedCellV, Cell.setSlot, Cell.withEntry, Array.getElem?_setIfInBounds, bC, bS, bP, bC.symm, bS.symm, bP.symm, defaultValue] using this, fun _ _ => rfl⟩
  obtain ⟨tm, methC, cdC, kC, vm₁, hnC, -, -, -, -, -, -, -, hW₁, st1⟩ := Steps.initColdS (tb := p.tables) (e := e) (below := below) (s := s) (U := W) X.here hexec X.warmed hpl hown (t := Bundle.initS cls) rfl rfl (Bundle.fit_spec hcls).2
    (a' (.methodLink own ic (Bundle.initS cls)) (by simp [Bundle.ownAtoms])) (h (.instanceMethod (Bundle.initS cls)) (by cases names <;> simp [Bundle.ownAtoms, Bundle.chainSAtoms, Bundle.passSAtoms])) (bytes := Bundle.six) (maxL := 2) (h (.code (Bundle.initS cls) Bundle.six 2 none) (by cases names <;> simp [Bundle.ownAtoms, Bundle.chainSAtoms, Bundle.passSAtoms]))
    (f := g) hg (a := a) (msg := msg) (rest := .ref a :: rest) hstack hd6
  cases Option.some.inj (hnC.symm.trans hP1m)
  have X₁ := X.noted hW₁
  obtain ⟨vm₂, X₂, st2⟩ := X₁.ctorMessageOffV hexec (g := { g with stack := .ref a :: rest }) hg hsize T L Z LZ M LM (P1 :: Ps)
    (fun P hP => by rcases List.mem_cons.mp hP with rfl | hP; exact L1; exact hL P hP) ⟨hlink1, hlink⟩ (u0 := u0) (sen := sen) (self := a) hmsg (cell := freshCell P1.m.cls kX) (cellS := cellS)
    hcell (fun _ => by simp) (by simp) rfl rfl hsel0 hselF hcellS hneS hknownS (by rw [hkeep _ (hout' _)]; exact hu0) (by rw [hkeep _ (hout' _)]; exact hsen)
    (Takes.of_laid hk hord tyC (by rw [Y.causeType]; rfl)) (Takes.of_laid hk hord tyS (by rw [Y.stackType]; exact fits_refV_array _ u0)) (Takes.of_laid hk hord tyP (by rw [Y.suppType]; exact fits_refV_object _ sen))
    (Takes.of_laid hk hord tyM (by rw [Y.msgType]; exact fits_refV_object _ ⟨msg, hmsg⟩)) Y.objLocals hskip htr [] hd6
    (by simp only [List.length_cons, hlen]; omega) (by simp only [List.length_cons, hlen]; exact hRlocals)
  have hlt : a < ((W.setVm vm₁).setVm vm₂).heap.size := (Array.getElem?_eq_some_iff.mp hcell).1
  refine ⟨(W.setVm vm₁).setVm vm₂, _, _, X₂, fun y hy => ?_, hlt, rfl, rfl, fun target hwalk => st1 _ (fun acts => ?_)⟩
  · simp only [List.mem_cons, List.not_mem_nil, or_false] at hy
    rcases hy with rfl | rfl | rfl | rfl | rfl <;> rfl
  · rw [doInvoke_state]
    exact st2 _ hwalk
set_option maxHeartbeats 1000000 in
theorem vx_ctorMade0 (X : Stand p l e R s m₀ args below meth c W locs cells slots) (hexec : p.tables.exec = Jvm.exec) (htr : e.platform.stackTraces = false) {own cls : String} {names : List String} {ic : Nat}
    (hown : s.vm.findClass own = some m₀.cls) (hcls : Bundle.fit cls = true) (hnames : ∀ n ∈ names, Bundle.fit n = true)
    (h : ∀ a ∈ Bundle.ownAtoms0 own ic cls names, a.before args s = true)
    (hlocs : ∀ x ∈ locs, ∀ cell, s.heap[x.base]? = some cell → cell.vm.isStatics = false)
    {a : Addr} {cX : ClassId} {kX : Class} (hfoundX : s.vm.findClass cls = some cX) (hkX : s.vm.classes[cX]? = some kX) (hcell : W.heap[a]? = some (freshCell cX kX)) (hnew : s.heap.size ≤ a)
    {g : JFrame} (hg : g.method = m₀) (hsize : g.locals.size = c.maxLocals) {rest : List Value} (hstack : g.stack = .ref a :: .ref a :: rest)
    (hd6 : decode c.code g.pc = .ok (.invokespecial ic, 3))
    (hRframes : names.length + 3 < R.frames) (hRlocals : 2 * g.monitorRoom + ((Value.ref a :: rest).map fun v => v.category).sum + (13 * (names.length + 1) + 41) ≤ R.locals) :
    ∃ (V : State) (ce : Cell) (L : List Loc), Stand p l e R s m₀ args below meth c (V.setCell a ce) (locs ++ L) cells slots ∧ (∀ y ∈ L, y.base = a) ∧ a < V.heap.size ∧ ce.cls = cX ∧ ce.vm = .none ∧
      ∀ target, Steps p.tables e below ((V.setCell a ce).setTop { g with stack := .ref a :: rest, pc := g.pc + 3 }) target → Steps p.tables e below (W.setTop g) target := by
  have howns : e.platform.frameOwnsMonitors = true := by rw [X.admits.platform]
  have hfin : e.platform.finalization = false := by rw [X.admits.platform]
  have hpl : e.platform.magicAccessors = ({} : Platform).magicAccessors := by rw [X.admits.platform]
  have a' : ∀ x, x ∈ Bundle.ownAtoms0 own ic cls names → x.holds args s none s [] = true := fun x hx => h x hx
  obtain ⟨T, Z, L, LZ, Y⟩ := ThrowableC.of_atoms (args := args) howns hfin hpl (fun x hx => h x (by simp [Bundle.ownAtoms0, hx]))
  obtain ⟨P1, Ps, hlen, L1, hL, hP1m, hlink1, hlink⟩ := Bundle.chain0 (args := args) hpl Y.init0 names cls hcls hnames (fun x hx => h x (by simp [Bundle.ownAtoms0, hx]))
  have hfound : s.vm.findClass cls = some P1.m.cls := findClass_of_methodNamed hP1m
  cases Option.some.inj (hfoundX.symm.trans hfound)
  obtain ⟨c1, kX', hc1, hk, hord, -, -, hn6⟩ := Cond.instantiable_spec (a' (.instantiable cls 6) (by simp [Bundle.ownAtoms0]))
  cases Option.some.inj (hc1.symm.trans hfound)
  cases Option.some.inj (hkX.symm.trans hk)
  have hsel0 : selectMethod e.platform s.vm P1.m.cls T.fill0 = .method T.fill0 := by
    obtain ⟨c2, r2, m2, q1, q2, q3, q4, -⟩ := Cond.selects_spec (a' (.selects cls Bundle.tFill0 Bundle.tFill0) (by simp [Bundle.ownAtoms0]))
    cases Option.some.inj (q1.symm.trans hfound)
    cases Option.some.inj (q2.symm.trans (State.methodFound?_of_named Y.fill0 (by decide)))
    cases Option.some.inj (q3.symm.trans Y.fill0)
    rw [Launch.admits_selectMethod X.admits]; exact q4
  have hselF : selectMethod e.platform s.vm P1.m.cls T.fill = .method T.fill := by
    obtain ⟨c2, r2, m2, q1, q2, q3, q4, -⟩ := Cond.selects_spec (a' (.selects cls Bundle.tFill Bundle.tFill) (by simp [Bundle.ownAtoms0]))
    cases Option.some.inj (q1.symm.trans hfound)
    cases Option.some.inj (q2.symm.trans (State.methodFound?_of_named Y.fill (by decide)))
    cases Option.some.inj (q3.symm.trans Y.fill)
    rw [Launch.admits_selectMethod X.admits]; exact q4
  obtain ⟨cellS0, hcS0, hiss⟩ := Y.statics
  obtain ⟨u0, hu0⟩ := Cond.staticRefV Y.unassigned L.unassignedStatic L.statics hcS0 hiss (a' (.isRef (.static Bundle.tN "UNASSIGNED_STACK" Bundle.steD)) (by simp [Bundle.ownAtoms0]))
  obtain ⟨sen, hsen⟩ := Cond.staticRefV Y.sentinel L.sentinelStatic L.statics hcS0 hiss (a' (.isRef (.static Bundle.tN "SUPPRESSED_SENTINEL" Bundle.listD)) (by simp [Bundle.ownAtoms0]))
  obtain ⟨ci198, i198, fB, hk198, hg198, ha198, hsB, -, hnB, htB, hffB⟩ := Cond.ownField (t := .object "java/lang/Object") Y.found L.cls (by decide +kernel) (a' (.fieldLink Bundle.tN 198 Bundle.tN "backtrace" "Ljava/lang/Object;") (by simp [Bundle.ownAtoms0])) (a' (.lays Bundle.tN Bundle.tN "backtrace" "Ljava/lang/Object;") (by simp [Bundle.ownAtoms0])) e.platform hpl
  obtain ⟨cellS, hcS', heS, -, hkeep⟩ := X.same.2.2.2.2.2 T.aS cellS0 hcS0
  have hcellS : W.heap[T.aS]? = some cellS := hcS'
  have hout' : ∀ i, (⟨T.aS, i⟩ : Loc) ∉ locs := fun i hmem => by
    have := hlocs _ hmem cellS0 hcS0
    rw [hiss] at this; cases this
  have hknownS : cellS.vm ≠ .unknown := by
    rw [heS]; intro hu
    rw [show cellS0.vm = .unknown from hu] at hiss
    cases hiss
  have hneS : T.aS ≠ a := Nat.ne_of_lt (Nat.lt_of_lt_of_le (Array.getElem?_eq_some_iff.mp hcS0).1 hnew)
  obtain ⟨iM, hffM⟩ := Y.msg
  obtain ⟨tyC, dC, hdC, hdnC⟩ := Cond.laysAt hfound hk Y.cause (a' (.lays cls Bundle.tN "cause" "Ljava/lang/Throwable;") (by simp [Bundle.ownAtoms0]))
  obtain ⟨tyS, dS, hdS, hdnS⟩ := Cond.laysAt hfound hk Y.stack (a' (.lays cls Bundle.tN "stackTrace" Bundle.steD) (by simp [Bundle.ownAtoms0]))
  obtain ⟨tyP, dP, hdP, hdnP⟩ := Cond.laysAt hfound hk Y.supp (a' (.lays cls Bundle.tN "suppressedExceptions" Bundle.listD) (by simp [Bundle.ownAtoms0]))
  obtain ⟨tyM, dM, hdM, hdnM⟩ := Cond.laysAt hfound hk hffM (a' (.lays cls Bundle.tN "detailMessage" "Ljava/lang/String;") (by simp [Bundle.ownAtoms0]))
  obtain ⟨tyB, dB, hdB, hdnB⟩ := Cond.laysAt hfound hk hffB (a' (.lays cls Bundle.tN "backtrace" "Ljava/lang/Object;") (by simp [Bundle.ownAtoms0]))
  have bC := Cond.laysApart hdB hdC hdnB hdnC (by rw [hnB, Y.causeName]; decide)
  have bS := Cond.laysApart hdB hdS hdnB hdnS (by rw [hnB, Y.stackName]; decide)
  have bP := Cond.laysApart hdB hdP hdnB hdnP (by rw [hnB, Y.suppName]; decide)
  have hskip : SkipFacts T e.platform s (fun u => u) u0 ((preparedCellV T.toThrowableT (freshCell P1.m.cls kX) a u0 sen).withEntry W.cur) :=
    ⟨{ ci198 := ci198, i198 := i198, fBack := fB }, ⟨hk198, hg198, ha198, hsB⟩, by
      have := fresh_default (c := P1.m.cls) tyB
      rw [htB] at this
      simpa [preparedCellV, Cell.setSlot, Cell.withEntry, Array.getElem?_setIfInBounds, bC, bS, bP, bC.symm, bS.symm, bP.symm, defaultValue] using this, fun _ _ => rfl⟩
  obtain ⟨tm, methC, cdC, kC, vm₁, hnC, -, -, -, -, -, -, -, hW₁, st1⟩ := Steps.initCold (tb := p.tables) (e := e) (below := below) (s := s) (U := W) X.here hexec X.warmed hpl hown (t := Bundle.init0 cls) rfl rfl (Bundle.fit_spec hcls).2
    (a' (.methodLink own ic (Bundle.init0 cls)) (by simp [Bundle.ownAtoms0])) (h (.instanceMethod (Bundle.init0 cls)) (by cases names <;> simp [Bundle.ownAtoms0, Bundle.chain0Atoms, Bundle.passAtoms])) (bytes := Bundle.five) (maxL := 1) (h (.code (Bundle.init0 cls) Bundle.five 1 none) (by cases names <;> simp [Bundle.ownAtoms0, Bundle.chain0Atoms, Bundle.passAtoms]))
    (f := g) hg (a := a) (rest := .ref a :: rest) hstack hd6
  cases Option.some.inj (hnC.symm.trans hP1m)
  have X₁ := X.noted hW₁
  obtain ⟨vm₂, X₂, st2⟩ := X₁.ctorPlainOffV hexec (g := { g with stack := .ref a :: rest }) hg hsize T L Z LZ (P1 :: Ps)
    (fun P hP => by rcases List.mem_cons.mp hP with rfl | hP; exact L1; exact hL P hP) ⟨hlink1, hlink⟩ (u0 := u0) (sen := sen) (self := a) (cell := freshCell P1.m.cls kX) (cellS := cellS)
    hcell (fun _ => by simp) (by simp) rfl rfl hsel0 hselF hcellS hneS hknownS (by rw [hkeep _ (hout' _)]; exact hu0) (by rw [hkeep _ (hout' _)]; exact hsen)
    (Takes.of_laid hk hord tyC (by rw [Y.causeType]; rfl)) (Takes.of_laid hk hord tyS (by rw [Y.stackType]; exact fits_refV_array _ u0)) (Takes.of_laid hk hord tyP (by rw [Y.suppType]; exact fits_refV_object _ sen)) Y.objLocals hskip htr [] hd6
    (by simp only [List.length_cons, hlen]; omega) (by simp only [List.length_cons, hlen]; exact hRlocals)
  have hlt : a < ((W.setVm vm₁).setVm vm₂).heap.size := (Array.getElem?_eq_some_iff.mp hcell).1
  refine ⟨(W.setVm vm₁).setVm vm₂, _, _, X₂, fun y hy => ?_, hlt, rfl, rfl, fun target hwalk => st1 _ (fun acts => ?_)⟩
  · simp only [List.mem_cons, List.not_mem_nil, or_false] at hy
    rcases hy with rfl | rfl | rfl | rfl <;> rfl
  · rw [doInvoke_state]
    exact st2 _ hwalk
end VXK
section VXK2
variable {p : Program} {l : Launch} {e : Env} {R : Room} {s : State} {m : MethodId} {args : Array Value} {below : List Frame} {meth : Method} {c : Code} {H : Heap} {locs : List Loc} {cells slots : Nat} {Q : State → Prop}
variable {ls : Array Slot} {rest : List Value} {D : va_G} {cl : List vw_C} {tys : List (ClassId × FieldType)} {ws : va_W}
/-- 'new E("text")' that isn't thrown at once: the object goes on the stack -/
theorem vx_makeS {cc : ByteArray} {pc : Nat} (hexec : p.tables.exec = Jvm.exec) (hb : c.code = cc) (hl : l.stackTraces = false) {own cls text : String} {names : List String} {ik is ic sa ci : Nat} {A : Nat → Prop} {T0 : u_T}
    (hown : s.vm.findClass own = some m.cls) (hcls : Bundle.fit cls = true) (hnames : ∀ n ∈ names, Bundle.fit n = true)
    (hk : (Cond.classLink own ik cls).before args s = true) (hini : (Cond.initialized cls).before args s = true) (hstr : vk_R own is text sa s) (hat : ∀ w ∈ vx_atS own ic cls names, w.before args s = true)
    (hgood : ∀ w ∈ Cond.classLink own ik cls :: Cond.initialized cls :: vx_atS own ic cls names, vx_ot w = true)
    (hU : vx_Zq Bundle.tN "UNASSIGNED_STACK" Bundle.steD A s s.heap) (hN : vx_Zq Bundle.tN "SUPPRESSED_SENTINEL" Bundle.listD A s s.heap) (hS : va_S A s.heap H locs) (hsize : ls.size = c.maxLocals)
    (d0 : decode cc pc = .ok (.new ik, 3)) (d3 : decode cc (pc + 3) = .ok (.dup, 1)) (d4 : decode cc (pc + 4) = .ok (.ldc is, 2)) (d6 : decode cc (pc + 6) = .ok (.invokespecial ic, 3))
    (hK : va_K D cl tys s) (hP : va_P D cl ws H) (hD : va_D A ws) (hA : ∀ q, s.heap.size ≤ q → A q) (hc : cl[ci]? = some (cls, T0, 0))
    (hRframes : names.length + 3 < R.frames) (hRlocals : (rest.map fun v => v.category).sum + (13 * (names.length + 1) + 43) ≤ R.locals) (hRcells : cells + 1 ≤ R.cells) (hRslots : slots + 6 ≤ R.slots)
    (kk : ∀ (q : Nat) (H1 : Heap), va_P D cl (ws ++ [(q, .inr (ci, []))]) H1 → va_D A (ws ++ [(q, .inr (ci, []))]) → va_S A s.heap H1 locs → W p l e R s m args below meth c H1 locs (cells + 1) (slots + 6) Q (F0 m (pc + 9) ls (.ref q :: rest))) :
    W p l e R s m args below meth c H locs cells slots Q (F0 m pc ls rest) := by
  intro T hT X
  subst hT
  have htr : e.platform.stackTraces = false := (show e.platform.stackTraces = l.stackTraces by rw [X.admits.platform]).trans hl
  have Y := vx_rebase X (R' := { frames := R.frames, locals := R.locals, cells := 1, slots := 6 }) (Nat.le_refl _) (Nat.le_refl _) hRcells hRslots
  obtain ⟨s', hA'⟩ : ∃ z, z = (T.setVm s.vm).setFrames (.invoking m args :: below) := ⟨_, rfl⟩
  rw [← hA'] at Y
  have hvm : s'.vm = s.vm := by rw [hA']; rfl
  have hhp : s'.heap = T.heap := by rw [hA']; rfl
  have hW0 : s.WarmedH s'.vm := by rw [hvm]; exact State.WarmedH.refl s
  have hat' : ∀ w ∈ vx_atS own ic cls names, w.before args s' = true := fun w hw => vx_ot_at hW0 hvm.symm (hgood w (List.mem_cons_of_mem _ (List.mem_cons_of_mem _ hw))) (hat w hw)
  have hk' : (Cond.classLink own ik cls).before args s' = true := vx_ot_at hW0 hvm.symm (hgood _ List.mem_cons_self) hk
  have hini' : (Cond.initialized cls).before args s' = true := vx_ot_at hW0 hvm.symm (hgood _ (List.mem_cons_of_mem _ List.mem_cons_self)) hini
  have hU' : vx_Zq Bundle.tN "UNASSIGNED_STACK" Bundle.steD A s' s'.heap := by rw [hhp]; exact vx_Zq.moved hW0.alike (hU.kept hS.2.1)
  have hN' : vx_Zq Bundle.tN "SUPPRESSED_SENTINEL" Bundle.listD A s' s'.heap := by rw [hhp]; exact vx_Zq.moved hW0.alike (hN.kept hS.2.1)
  have h : ∀ w ∈ Bundle.ownAtoms own ic cls names, w.before args s' = true := vx_own hat' (vx_isRefq hU'.1) (vx_isRefq hN'.1) hU'.2.word hN'.2.word
  have hown' : s'.vm.findClass own = some m.cls := by rw [hvm]; exact hown
  have hins : (Cond.instantiable cls 6).before args s' = true := h _ (by simp [Bundle.ownAtoms])
  obtain ⟨vm₁, cX, kX, hfX, hkX, -, -, X₁, st1⟩ := Y.newCold hexec (own := own) (C := cls) (index := ik) (n := 6) hown' hk' hins hini'
    (g := F0 m pc ls rest) rfl (by rw [hb]; exact d0) (Nat.le_refl _) (Nat.le_refl _)
  generalize hT1 : (T.setVm vm₁).pushCell { cls := cX, slots := kX.instanceTypes.map defaultValue, vm := .none } = T1 at X₁ st1
  have hcat : (Value.ref T.heap.size).category = 1 := rfl
  have hcellA : T1.heap[T.heap.size]? = some (freshCell cX kX) := by rw [← hT1]; exact State.heap_pushCell_size _ _
  have d3' : decode c.code (pc + 3) = .ok (.dup, 1) := by rw [hb]; exact d3
  have d4' : decode c.code (pc + 4) = .ok (.ldc is, 2) := by rw [hb]; exact d4
  have hstr' : vk_R own is text sa s' := vk_R.warm hW0 hstr
  obtain ⟨V, ce, L, Z, hL, hlt, hcl9, hvm9, st⟩ := vx_ctorMadeS X₁ hexec htr (own := own) (cls := cls) (names := names) (ic := ic) hown' hcls hnames h (fun x hx => nomatch hx) hfX hkX hcellA (by rw [hhp]; exact Nat.le_refl _) (msg := .ref sa) rfl
    (g := { method := m, pc := pc + 6, locals := ls, stack := .ref sa :: .ref T.heap.size :: .ref T.heap.size :: rest, locked := none }) rfl hsize (rest := rest) rfl
    (by rw [hb]; exact d6) hRframes (by simp only [List.map_cons, List.sum_cons, hcat]; omega)
  have Z0 := Stand.forget (locs := []) Z (fun y hy => by rw [hL y hy, hhp]; exact Nat.le_refl _)
  obtain ⟨f1, f2⟩ := vx_frame Z0.same
  rw [hhp] at f1 f2
  have hcid : ce.cls = D.1 ci := by
    rw [hcl9]
    have h1 := (hK.1 ci _ hc).2.1
    rw [hvm] at hfX
    exact Option.some.inj (hfX.symm.trans h1)
  have hh : (V.setCell T.heap.size ce).heap[T.heap.size]? = some ce := heapAt_setCell_self (s := V) ce hlt
  subst hA'
  have X5 := vx_back9 X Y Z0
  have X6 : Stand p l e R s m args below meth c (V.setCell T.heap.size ce) locs (cells + 1) (slots + 6) := { X5 with same := X5.same.mono (by omega) (by omega) }
  have hk9 : ∀ (k : Nat) (x : Nat × va_E), ws[k]? = some x → (V.setCell T.heap.size ce).heap[x.1]? = T.heap[x.1]? := fun k x hx => f2 x.1 ((hP k x hx).lt) (fun z hz => nomatch hz)
  obtain ⟨t, a1, b1⟩ := kk T.heap.size (V.setCell T.heap.size ce).heap ((hP.kept hk9).app (fun k x hx => by
      have hz : k < 1 := (List.getElem?_eq_some_iff.mp hx).1
      rw [show k = 0 by omega] at hx
      cases hx
      exact ⟨_, hc, ce, hh, hcid, hvm9, fun k hk => absurd hk (Nat.not_lt_zero k)⟩)) (hD.push hP rfl (hA _ hS.1)) ⟨Nat.le_trans hS.1 f1, fun q h1 h2 => (f2 q (Nat.lt_of_lt_of_le h1 hS.1) (fun z hz => nomatch hz)).trans (hS.2.1 q h1 h2), hS.2.2⟩ _ rfl X6
  refine ⟨t, st1 _ ?_, b1⟩
  show Steps p.tables e below (T1.setTop { method := m, pc := pc + 3, locals := ls, stack := .ref T.heap.size :: rest, locked := none }) _
  jvm_step X₁.here [X₁.here.top, hexec, d3', Value.category]
  exact X₁.ldcString hexec (own := own) (text := text) (index := is) (a := sa) hown' hstr'.1 hstr'.2
    (g := { method := m, pc := pc + 4, locals := ls, stack := .ref T.heap.size :: .ref T.heap.size :: rest, locked := none }) rfl d4' _ (st _ a1)
/-- 'new E()' that isn't thrown at once: the object goes on the stack -/
theorem vx_make0 {cc : ByteArray} {pc : Nat} (hexec : p.tables.exec = Jvm.exec) (hb : c.code = cc) (hl : l.stackTraces = false) {own cls : String} {names : List String} {ik ic ci : Nat} {A : Nat → Prop} {T0 : u_T}
    (hown : s.vm.findClass own = some m.cls) (hcls : Bundle.fit cls = true) (hnames : ∀ n ∈ names, Bundle.fit n = true)
    (hk : (Cond.classLink own ik cls).before args s = true) (hini : (Cond.initialized cls).before args s = true) (hat : ∀ w ∈ vx_at0 own ic cls names, w.before args s = true)
    (hgood : ∀ w ∈ Cond.classLink own ik cls :: Cond.initialized cls :: vx_at0 own ic cls names, vx_ot w = true)
    (hU : vx_Zq Bundle.tN "UNASSIGNED_STACK" Bundle.steD A s s.heap) (hN : vx_Zq Bundle.tN "SUPPRESSED_SENTINEL" Bundle.listD A s s.heap) (hS : va_S A s.heap H locs) (hsize : ls.size = c.maxLocals)
    (d0 : decode cc pc = .ok (.new ik, 3)) (d3 : decode cc (pc + 3) = .ok (.dup, 1)) (d4 : decode cc (pc + 4) = .ok (.invokespecial ic, 3))
    (hK : va_K D cl tys s) (hP : va_P D cl ws H) (hD : va_D A ws) (hA : ∀ q, s.heap.size ≤ q → A q) (hc : cl[ci]? = some (cls, T0, 0))
    (hRframes : names.length + 3 < R.frames) (hRlocals : (rest.map fun v => v.category).sum + (13 * (names.length + 1) + 42) ≤ R.locals) (hRcells : cells + 1 ≤ R.cells) (hRslots : slots + 6 ≤ R.slots)
    (kk : ∀ (q : Nat) (H1 : Heap), va_P D cl (ws ++ [(q, .inr (ci, []))]) H1 → va_D A (ws ++ [(q, .inr (ci, []))]) → va_S A s.heap H1 locs → W p l e R s m args below meth c H1 locs (cells + 1) (slots + 6) Q (F0 m (pc + 7) ls (.ref q :: rest))) :
    W p l e R s m args below meth c H locs cells slots Q (F0 m pc ls rest) := by
  intro T hT X
  subst hT
  have htr : e.platform.stackTraces = false := (show e.platform.stackTraces = l.stackTraces by rw [X.admits.platform]).trans hl
  have Y := vx_rebase X (R' := { frames := R.frames, locals := R.locals, cells := 1, slots := 6 }) (Nat.le_refl _) (Nat.le_refl _) hRcells hRslots
  obtain ⟨s', hA'⟩ : ∃ z, z = (T.setVm s.vm).setFrames (.invoking m args :: below) := ⟨_, rfl⟩
  rw [← hA'] at Y
  have hvm : s'.vm = s.vm := by rw [hA']; rfl
  have hhp : s'.heap = T.heap := by rw [hA']; rfl
  have hW0 : s.WarmedH s'.vm := by rw [hvm]; exact State.WarmedH.refl s
  have hat' : ∀ w ∈ vx_at0 own ic cls names, w.before args s' = true := fun w hw => vx_ot_at hW0 hvm.symm (hgood w (List.mem_cons_of_mem _ (List.mem_cons_of_mem _ hw))) (hat w hw)
  have hk' : (Cond.classLink own ik cls).before args s' = true := vx_ot_at hW0 hvm.symm (hgood _ List.mem_cons_self) hk
  have hini' : (Cond.initialized cls).before args s' = true := vx_ot_at hW0 hvm.symm (hgood _ (List.mem_cons_of_mem _ List.mem_cons_self)) hini
  have hU' : vx_Zq Bundle.tN "UNASSIGNED_STACK" Bundle.steD A s' s'.heap := by rw [hhp]; exact vx_Zq.moved hW0.alike (hU.kept hS.2.1)
  have hN' : vx_Zq Bundle.tN "SUPPRESSED_SENTINEL" Bundle.listD A s' s'.heap := by rw [hhp]; exact vx_Zq.moved hW0.alike (hN.kept hS.2.1)
  have h : ∀ w ∈ Bundle.ownAtoms0 own ic cls names, w.before args s' = true := vx_own hat' (vx_isRefq hU'.1) (vx_isRefq hN'.1) hU'.2.word hN'.2.word
  have hown' : s'.vm.findClass own = some m.cls := by rw [hvm]; exact hown
  have hins : (Cond.instantiable cls 6).before args s' = true := h _ (by simp [Bundle.ownAtoms0])
  obtain ⟨vm₁, cX, kX, hfX, hkX, -, -, X₁, st1⟩ := Y.newCold hexec (own := own) (C := cls) (index := ik) (n := 6) hown' hk' hins hini'
    (g := F0 m pc ls rest) rfl (by rw [hb]; exact d0) (Nat.le_refl _) (Nat.le_refl _)
  generalize hT1 : (T.setVm vm₁).pushCell { cls := cX, slots := kX.instanceTypes.map defaultValue, vm := .none } = T1 at X₁ st1
  have hcat : (Value.ref T.heap.size).category = 1 := rfl
  have hcellA : T1.heap[T.heap.size]? = some (freshCell cX kX) := by rw [← hT1]; exact State.heap_pushCell_size _ _
  have d3' : decode c.code (pc + 3) = .ok (.dup, 1) := by rw [hb]; exact d3
  obtain ⟨V, ce, L, Z, hL, hlt, hcl9, hvm9, st⟩ := vx_ctorMade0 X₁ hexec htr (own := own) (cls := cls) (names := names) (ic := ic) hown' hcls hnames h (fun x hx => nomatch hx) hfX hkX hcellA (by rw [hhp]; exact Nat.le_refl _)
    (g := { method := m, pc := pc + 4, locals := ls, stack := .ref T.heap.size :: .ref T.heap.size :: rest, locked := none }) rfl hsize (rest := rest) rfl
    (by rw [hb]; exact d4) hRframes (by simp only [List.map_cons, List.sum_cons, hcat]; omega)
  have Z0 := Stand.forget (locs := []) Z (fun y hy => by rw [hL y hy, hhp]; exact Nat.le_refl _)
  obtain ⟨f1, f2⟩ := vx_frame Z0.same
  rw [hhp] at f1 f2
  have hcid : ce.cls = D.1 ci := by
    rw [hcl9]
    have h1 := (hK.1 ci _ hc).2.1
    rw [hvm] at hfX
    exact Option.some.inj (hfX.symm.trans h1)
  have hh : (V.setCell T.heap.size ce).heap[T.heap.size]? = some ce := heapAt_setCell_self (s := V) ce hlt
  subst hA'
  have X5 := vx_back9 X Y Z0
  have X6 : Stand p l e R s m args below meth c (V.setCell T.heap.size ce) locs (cells + 1) (slots + 6) := { X5 with same := X5.same.mono (by omega) (by omega) }
  have hk9 : ∀ (k : Nat) (x : Nat × va_E), ws[k]? = some x → (V.setCell T.heap.size ce).heap[x.1]? = T.heap[x.1]? := fun k x hx => f2 x.1 ((hP k x hx).lt) (fun z hz => nomatch hz)
  obtain ⟨t, a1, b1⟩ := kk T.heap.size (V.setCell T.heap.size ce).heap ((hP.kept hk9).app (fun k x hx => by
      have hz : k < 1 := (List.getElem?_eq_some_iff.mp hx).1
      rw [show k = 0 by omega] at hx
      cases hx
      exact ⟨_, hc, ce, hh, hcid, hvm9, fun k hk => absurd hk (Nat.not_lt_zero k)⟩)) (hD.push hP rfl (hA _ hS.1)) ⟨Nat.le_trans hS.1 f1, fun q h1 h2 => (f2 q (Nat.lt_of_lt_of_le h1 hS.1) (fun z hz => nomatch hz)).trans (hS.2.1 q h1 h2), hS.2.2⟩ _ rfl X6
  refine ⟨t, st1 _ ?_, b1⟩
  show Steps p.tables e below (T1.setTop { method := m, pc := pc + 3, locals := ls, stack := .ref T.heap.size :: rest, locked := none }) _
  jvm_step X₁.here [X₁.here.top, hexec, d3', Value.category]
  exact st _ a1
/-- 'throw x' of an object that was made before -/
theorem vx_athrow {cc : ByteArray} {pc : Nat} (hexec : p.tables.exec = Jvm.exec) (hb : c.code = cc) {q : Addr} (hdg : decode cc pc = .ok (.athrow, 1)) (k : vx_W p l e R s m args below meth c H locs cells slots Q (F0 m pc ls rest) q) : W p l e R s m args below meth c H locs cells slots Q (F0 m pc ls (.ref q :: rest)) := by
  intro T hT X
  obtain ⟨t, st, hq⟩ := k T hT X
  refine ⟨t, ?_, hq⟩
  have hdg' : decode c.code pc = .ok (.athrow, 1) := by rw [hb]; exact hdg
  jvm_step X.here [X.here.top, hexec, hdg', athrow.wp_sem]
  exact st
end VXK2
/-! ===== END ===== -/
/-! ===== BEGIN a constructor that throws (launches without stack traces) ===== -/
section VXIA
variable {p : Program} {l : Launch} {e : Env} {R : Room} {s : State} {m : MethodId} {args : Array Value} {below : List Frame} {meth : Method} {c : Code} {T : State} {locs : List Loc} {cells slots : Nat}
theorem vx_callI (X : Stand p l e R s m args below meth c T locs cells slots) (hexec : p.tables.exec = Jvm.exec) {own : String} {index : Nat} {y : MethodName} {bytes : ByteArray} {maxL : Nat}
    (hown : s.vm.findClass own = some m.cls) (hy1 : y.name = "<init>") (hlink : (Cond.methodLink own index y).before args s = true) (hinst : (Cond.instanceMethod y).before args s = true)
    (hcode : (Cond.code y bytes maxL none).before args s = true) (hy : y.cls ≠ "java/lang/invoke/MethodHandle" ∧ y.cls ≠ "java/lang/invoke/VarHandle")
    {W9 : Nat} {Pre : Pt → Array Value → Prop} {Post : Pt → Array Value → Option Value → Pt → Prop} {PostX : Pt → Array Value → Addr → Pt → Prop} (hK : vx_Back l R p e below s args y 3 W9 Pre Post PostX)
    {g : JFrame} (hg : g.method = m) (hsize : g.locals.size = c.maxLocals) {a : Addr} {argsL rest : List Value} (hlen : ∀ sig, parseMethodDescriptor y.desc = some sig → argsL.length = sig.parameters.length)
    (hstack : g.stack = argsL.reverse ++ .ref a :: rest) (hW : 2 * g.monitorRoom + (rest.map fun v => v.category).sum ≤ W9) (hdg : decode c.code g.pc = .ok (.invokespecial index, 3))
    (hpre : ∀ vm₁, s.WarmedH vm₁ → Pre ⟨T.setVm vm₁, locs, cells, slots⟩ (Value.ref a :: argsL).toArray) :
    (∃ (v : Option Value) (vm₁ : Vm) (B : Pt), s.WarmedH vm₁ ∧ Stand p l e R s m args below meth c B.U B.locs B.cells B.slots ∧ Post ⟨T.setVm vm₁, locs, cells, slots⟩ (Value.ref a :: argsL).toArray v B ∧
      ∀ target, Steps p.tables e below (B.U.setTop { g with pc := g.pc + 3, stack := v.toList ++ rest }) target → Steps p.tables e below (T.setTop g) target) ∨
    (∃ (q : Addr) (vm₁ : Vm) (B : Pt), s.WarmedH vm₁ ∧ Stand p l e R s m args below meth c B.U B.locs B.cells B.slots ∧ PostX ⟨T.setVm vm₁, locs, cells, slots⟩ (Value.ref a :: argsL).toArray q B ∧
      Steps p.tables e below (T.setTop g) ((B.U.setTop { g with stack := rest }).pushFrame (.throwing q))) := by
  subst hg
  have hpl : e.platform.magicAccessors = ({} : Platform).magicAccessors := by rw [X.admits.platform]
  obtain ⟨mk, methM, cM, kP, vm₁, hnamed, hmethM, hcodeM, -, hlocalsM, -, hkP, -, hW₁, hstep₁⟩ := Steps.initColdArgs (e := e) X.here hexec X.warmed hpl hown hy1 hy hlink hinst hcode (f := g) rfl hlen hstack hdg
  have X₁ := X.noted hW₁
  rcases hK g.method meth c ⟨T.setVm vm₁, locs, cells, slots⟩ { g with stack := rest } (.invokespecial index) mk (Value.ref a :: argsL).toArray X₁ rfl hsize hdg hW (X₁.named hnamed) (hpre vm₁ X₁.warmed) with ⟨v, B, X', hpost, hsteps⟩ | ⟨q, B, X', hpost, hsteps⟩
  · exact Or.inl ⟨v, vm₁, B, X₁.warmed, X', hpost, fun target h => hstep₁ _ fun acts => by rw [doInvoke_state]; exact hsteps.trans h⟩
  · exact Or.inr ⟨q, vm₁, B, X₁.warmed, X', hpost, hstep₁ _ fun acts => by rw [doInvoke_state]; exact hsteps⟩
end VXIA
section VXIB
variable {p : Program} {l : Launch} {e : Env} {R : Room} {s : State} {m : MethodId} {args : Array Value} {below : List Frame} {meth : Method} {c : Code} {H : Heap} {locs : List Loc} {cells slots : Nat}
variable {y : MethodName} {bytes cc : ByteArray} {maxL nL mc ms n index : Nat} {ret : Option FieldType} {ws : List Cond} {rm : Room} {Pc : Array Value → State → Prop} {Qc : Array Value → State → Outcome → State → Prop} {XC : String → State → State → Prop} {free : Addr → Prop} {Ts : List Cond} {own C : String} {b : Addr} {As rest : List Value} {g : JFrame}
theorem vx_runI (S : CallFix p m c cc nL s args Ts own) (hM : vx_Met l y ws rm Pc Qc XC mc ms free) (cw : CallB R s args own index y bytes maxL none ws rm mc ms n ∧ y.name = "<init>" ∧ (Cond.instanceMethod y).before args s = true) (hp : PreS s H Pc (.ref b :: As))
    (hg : g.method = m) (hn : As.length = n) (hsize : g.locals.size = nL) (hstack : g.stack = As.reverse ++ .ref b :: rest) (hW : 2 * g.monitorRoom + (rest.map fun v => v.category).sum ≤ 8) (hdg : decode cc g.pc = .ok (.invokespecial index, 3)) (hf : cells + mc ≤ R.cells ∧ slots + ms ≤ R.slots) :
    vx_Run p l e R s m args below meth c H locs cells slots mc ms g rest (Qc (Value.ref b :: As).toArray) XC free := by
  have hK : vx_Back l R p e below s args y 3 8 (PreOf R mc ms Pc) (PostOf Qc mc ms free) (vx_Post XC mc ms free) := vx_callBack cw.1 hM hp.1
  obtain ⟨⟨-, -, -, -, -, -, hcode, -, hy, hlen, hl⟩, hy1, hin⟩ := cw
  obtain ⟨hx, hb, hml, ho, -⟩ := S
  have hPc := hp.2
  intro T hT X
  rcases vx_callI X hx (bytes := bytes) (maxL := maxL) ho hy1 hl hin hcode hy hK hg (hsize.trans hml.symm) (a := b) (argsL := As) (rest := rest) (fun sig h => hn.trans (hlen sig h)) hstack hW (by rw [hb]; exact hdg)
    (fun vm₁ hW₁ => ⟨hf.1, hf.2, hPc (T.setVm vm₁) hT hW₁⟩) with ⟨v, vm₁, ⟨U', l2, c2, s2⟩, hW₁, X', ⟨g', mk, t, L, e1, e2, hq, h1, hL, h2, h3⟩, st⟩ | ⟨q, vm₁, ⟨U', l2, c2, s2⟩, hW₁, X', ⟨g', mk, t, L, E, ce, e1, e2, hq, hce, hcv, hcl, h1, hL, h2, h3⟩, st⟩
  · dsimp only [Pt.U, Pt.locs, Pt.cells, Pt.slots] at X' e1 e2 h1 h2 h3 st
    subst h1; subst h2; subst h3
    exact Or.inl ⟨v, (T.setVm vm₁).calling g' mk (Value.ref b :: As).toArray, t, U', L, hT, X', hL, e1, e2, hq, st⟩
  · dsimp only [Pt.U, Pt.locs, Pt.cells, Pt.slots] at X' e1 e2 h1 h2 h3 st hcl
    subst h1; subst h2; subst h3
    exact Or.inr ⟨q, (T.setVm vm₁).calling g' mk (Value.ref b :: As).toArray, t, U', L, E, ce, hT, X', hL, e1, e2, hq, hce, hcv, vx_cls hW₁ hcl, st⟩
end VXIB
/-! ===== END ===== -/
/-! ===== BEGIN a private constructor of a nest mate that throws ===== -/
section VXIC
variable {p : Program} {l : Launch} {e : Env} {R : Room} {s : State} {m : MethodId} {args : Array Value} {below : List Frame} {meth : Method} {c : Code} {T : State} {locs : List Loc} {cells slots : Nat}
theorem vx_callIN (X : Stand p l e R s m args below meth c T locs cells slots) (hexec : p.tables.exec = Jvm.exec) {own : String} {index : Nat} {host : String} {y : MethodName} {bytes : ByteArray} {maxL : Nat}
    (hown : s.vm.findClass own = some m.cls) (hy1 : y.name = "<init>") (hlink : (Cond.methodLinkNest own index y host).before args s = true) (hinst : (Cond.instanceMethod y).before args s = true)
    (hcode : (Cond.code y bytes maxL none).before args s = true) (hy : y.cls ≠ "java/lang/invoke/MethodHandle" ∧ y.cls ≠ "java/lang/invoke/VarHandle")
    {W9 : Nat} {Pre : Pt → Array Value → Prop} {Post : Pt → Array Value → Option Value → Pt → Prop} {PostX : Pt → Array Value → Addr → Pt → Prop} (hK : vx_Back l R p e below s args y 3 W9 Pre Post PostX)
    {g : JFrame} (hg : g.method = m) (hsize : g.locals.size = c.maxLocals) {a : Addr} {argsL rest : List Value} (hlen : ∀ sig, parseMethodDescriptor y.desc = some sig → argsL.length = sig.parameters.length)
    (hstack : g.stack = argsL.reverse ++ .ref a :: rest) (hW : 2 * g.monitorRoom + (rest.map fun v => v.category).sum ≤ W9) (hdg : decode c.code g.pc = .ok (.invokespecial index, 3))
    (hpre : ∀ vm₁, s.WarmedH vm₁ → Pre ⟨T.setVm vm₁, locs, cells, slots⟩ (Value.ref a :: argsL).toArray) :
    (∃ (v : Option Value) (vm₁ : Vm) (B : Pt), s.WarmedH vm₁ ∧ Stand p l e R s m args below meth c B.U B.locs B.cells B.slots ∧ Post ⟨T.setVm vm₁, locs, cells, slots⟩ (Value.ref a :: argsL).toArray v B ∧
      ∀ target, Steps p.tables e below (B.U.setTop { g with pc := g.pc + 3, stack := v.toList ++ rest }) target → Steps p.tables e below (T.setTop g) target) ∨
    (∃ (q : Addr) (vm₁ : Vm) (B : Pt), s.WarmedH vm₁ ∧ Stand p l e R s m args below meth c B.U B.locs B.cells B.slots ∧ PostX ⟨T.setVm vm₁, locs, cells, slots⟩ (Value.ref a :: argsL).toArray q B ∧
      Steps p.tables e below (T.setTop g) ((B.U.setTop { g with stack := rest }).pushFrame (.throwing q))) := by
  subst hg
  have hpl : e.platform.magicAccessors = ({} : Platform).magicAccessors := by rw [X.admits.platform]
  obtain ⟨mk, methM, cM, kP, vm₁, hnamed, hmethM, hcodeM, -, hlocalsM, -, hkP, -, hW₁, hstep₁⟩ := Steps.initColdArgsNest (e := e) X.here hexec X.warmed hpl hown hy1 hy hlink hinst hcode (f := g) rfl hlen hstack hdg
  have X₁ := X.noted hW₁
  rcases hK g.method meth c ⟨T.setVm vm₁, locs, cells, slots⟩ { g with stack := rest } (.invokespecial index) mk (Value.ref a :: argsL).toArray X₁ rfl hsize hdg hW (X₁.named hnamed) (hpre vm₁ X₁.warmed) with ⟨v, B, X', hpost, hsteps⟩ | ⟨q, B, X', hpost, hsteps⟩
  · exact Or.inl ⟨v, vm₁, B, X₁.warmed, X', hpost, fun target h => hstep₁ _ fun acts => by rw [doInvoke_state]; exact hsteps.trans h⟩
  · exact Or.inr ⟨q, vm₁, B, X₁.warmed, X', hpost, hstep₁ _ fun acts => by rw [doInvoke_state]; exact hsteps⟩
end VXIC
section VXID
variable {p : Program} {l : Launch} {e : Env} {R : Room} {s : State} {m : MethodId} {args : Array Value} {below : List Frame} {meth : Method} {c : Code} {H : Heap} {locs : List Loc} {cells slots : Nat}
theorem vx_runIN {y : MethodName} {bytes cc : ByteArray} {maxL nL mc ms n index : Nat} {ws : List Cond} {rm : Room} {Pc : Array Value → State → Prop} {Qc : Array Value → State → Outcome → State → Prop} {XC : String → State → State → Prop} {free : Addr → Prop} {Ts : List Cond} {own host : String} {b : Addr} {As rest : List Value} {g : JFrame}
    (S : CallFix p m c cc nL s args Ts own) (hM : vx_Met l y ws rm Pc Qc XC mc ms free) (cw : va_CN R s args own index y host bytes maxL none ws rm mc ms n ∧ y.name = "<init>" ∧ (Cond.instanceMethod y).before args s = true) (hp : PreS s H Pc (.ref b :: As))
    (hg : g.method = m) (hn : As.length = n) (hsize : g.locals.size = nL) (hstack : g.stack = As.reverse ++ .ref b :: rest) (hW : 2 * g.monitorRoom + (rest.map fun v => v.category).sum ≤ 8) (hdg : decode cc g.pc = .ok (.invokespecial index, 3)) (hf : cells + mc ≤ R.cells ∧ slots + ms ≤ R.slots) :
    vx_Run p l e R s m args below meth c H locs cells slots mc ms g rest (Qc (Value.ref b :: As).toArray) XC free := by
  obtain ⟨⟨⟨hrc, hrs, hfr, hlo, hws, hcw⟩, hcode, hini, hy, hlen, hl⟩, hx1, hx2⟩ := cw
  have hK : vx_Back l R p e below s args y 3 8 (PreOf R mc ms Pc) (PostOf Qc mc ms free) (vx_Post XC mc ms free) := vx_back (bytes := bytes) (maxL := maxL) (ret := none) hM hp.1 hrc hrs hfr hlo hws hcw (fun a' U hW => word_at hW (Or.inl (by first | rfl | simp [Cond.onTables, Cond.keeps, Cond.steady])) hini)
  obtain ⟨hx, hb, hml, ho, -⟩ := S
  have hPc := hp.2
  intro T hT X
  rcases vx_callIN X hx (bytes := bytes) (maxL := maxL) ho hx1 hl hx2 hcode hy hK hg (hsize.trans hml.symm) (a := b) (argsL := As) (rest := rest) (fun sig h => hn.trans (hlen sig h)) hstack hW (by rw [hb]; exact hdg)
    (fun vm₁ hW₁ => ⟨hf.1, hf.2, hPc (T.setVm vm₁) hT hW₁⟩) with ⟨v, vm₁, ⟨U', l2, c2, s2⟩, hW₁, X', ⟨g', mk, t, L, e1, e2, hq, h1, hL, h2, h3⟩, st⟩ | ⟨q, vm₁, ⟨U', l2, c2, s2⟩, hW₁, X', ⟨g', mk, t, L, E, ce, e1, e2, hq, hce, hcv, hcl, h1, hL, h2, h3⟩, st⟩
  · dsimp only [Pt.U, Pt.locs, Pt.cells, Pt.slots] at X' e1 e2 h1 h2 h3 st
    subst h1; subst h2; subst h3
    exact Or.inl ⟨v, (T.setVm vm₁).calling g' mk (Value.ref b :: As).toArray, t, U', L, hT, X', hL, e1, e2, hq, st⟩
  · dsimp only [Pt.U, Pt.locs, Pt.cells, Pt.slots] at X' e1 e2 h1 h2 h3 st hcl
    subst h1; subst h2; subst h3
    exact Or.inr ⟨q, (T.setVm vm₁).calling g' mk (Value.ref b :: As).toArray, t, U', L, E, ce, hT, X', hL, e1, e2, hq, hce, hcv, vx_cls hW₁ hcl, st⟩
end VXID
/-! ===== END ===== -/
/-! ===== BEGIN a method of a class above, found by the receiver, that may throw (follows va_callVU, va_runU of this kit) ===== -/
section
variable {p : Program} {l : Launch} {e : Env} {R : Room} {s : State} {m : MethodId} {args : Array Value} {below : List Frame} {meth : Method} {c : Code} {H : Heap} {locs : List Loc} {cells slots : Nat}
theorem vx_callVU {T : State} {locs : List Loc} {cells slots : Nat} (X : Stand p l e R s m args below meth c T locs cells slots) (hexec : p.tables.exec = Jvm.exec) {own C owner : String} {index : Nat} {x y : MethodName} {bytes : ByteArray} {maxL : Nat} {ret : Option FieldType}
    (hown : s.vm.findClass own = some m.cls) (hlink : (Cond.methodLink own index x).before args s = true) (hsame : (Cond.sameMethod x.cls owner x.name x.desc).before args s = true)
    (hd0 : va_Decl s ⟨owner, x.name, x.desc⟩) (howner : owner ≠ "java/lang/invoke/MethodHandle" ∧ owner ≠ "java/lang/invoke/VarHandle")
    (hsel : (Cond.selects C x y).before args s = true) (hinst : (Cond.instanceMethod y).before args s = true) (hcode : (Cond.code y bytes maxL ret).before args s = true)
    {W : Nat} {Pre : Pt → Array Value → Prop} {Post : Pt → Array Value → Option Value → Pt → Prop} {PostX : Pt → Array Value → Addr → Pt → Prop} (hK : vx_Back l R p e below s args y 3 W Pre Post PostX)
    {b : Addr} {cellB : Cell} (hcell : T.heap[b]? = some cellB) (hobj : cellB.vm.isStatics = false) (hcls : s.vm.findClass C = some cellB.cls)
    {g : JFrame} (hg : g.method = m) (hsize : g.locals.size = c.maxLocals) {argsL rest : List Value} (hlen : ∀ sig, parseMethodDescriptor x.desc = some sig → argsL.length = sig.parameters.length)
    (hstack : g.stack = argsL.reverse ++ .ref b :: rest) (hW : 2 * g.monitorRoom + (rest.map fun v => v.category).sum ≤ W) (hdg : decode c.code g.pc = .ok (.invokevirtual index, 3))
    (hpre : ∀ vm₁, s.WarmedH vm₁ → Pre ⟨T.setVm vm₁, locs, cells, slots⟩ (Value.ref b :: argsL).toArray) :
    (∃ (v : Option Value) (vm₁ : Vm) (B : Pt), s.WarmedH vm₁ ∧ Stand p l e R s m args below meth c B.U B.locs B.cells B.slots ∧ Post ⟨T.setVm vm₁, locs, cells, slots⟩ (Value.ref b :: argsL).toArray v B ∧
      ∀ target, Steps p.tables e below (B.U.setTop { g with pc := g.pc + 3, stack := v.toList ++ rest }) target → Steps p.tables e below (T.setTop g) target) ∨
    (∃ (q : Addr) (vm₁ : Vm) (B : Pt), s.WarmedH vm₁ ∧ Stand p l e R s m args below meth c B.U B.locs B.cells B.slots ∧ PostX ⟨T.setVm vm₁, locs, cells, slots⟩ (Value.ref b :: argsL).toArray q B ∧
      Steps p.tables e below (T.setTop g) ((B.U.setTop { g with stack := rest }).pushFrame (.throwing q))) := by
  obtain ⟨r0, r, hn, hrm, hstR, hsigR⟩ := hd0
  obtain ⟨cn, ck, r1, hcn, hck, hni, hf, hn1⟩ := Cond.sameMethod_found hsame
  cases hn.symm.trans hn1
  obtain ⟨mk, methM, hnamed, hmethM, -, habM⟩ := Cond.instanceMethod_spec hinst
  obtain ⟨c2, r2, m2, q1, q2, q3, q4, kP, hkP, hkPi⟩ := Cond.selects_spec hsel
  cases hcls.symm.trans q1
  cases hf.symm.trans q2
  cases hnamed.symm.trans q3
  have hselP : selectMethod e.platform s.vm cellB.cls r0 = .method mk := by rw [Launch.admits_selectMethod X.admits]; exact q4
  obtain ⟨vm₁, X₁, hstep₁⟩ := X.invokevirtualUp hexec hown hlink hsame howner hn hrm hstR (a := b) (cell := cellB) hcell
    (fun z h => by rw [h] at hobj; cases hobj) hselP hmethM habM hkP hkPi (g := g) hg (argsL := argsL) (rest := rest) (hlen _ hsigR) hstack hdg
  rcases hK m meth c ⟨T.setVm vm₁, locs, cells, slots⟩ { g with stack := rest } (.invokevirtual index) mk (Value.ref b :: argsL).toArray X₁ hg hsize hdg hW (X₁.named hnamed) (hpre vm₁ X₁.warmed) with ⟨v, B, X', hpost, hsteps⟩ | ⟨q, B, X', hpost, hsteps⟩
  · exact Or.inl ⟨v, vm₁, B, X₁.warmed, X', hpost, fun target h => hstep₁ _ fun acts => by rw [doInvoke_state]; exact hsteps.trans h⟩
  · exact Or.inr ⟨q, vm₁, B, X₁.warmed, X', hpost, hstep₁ _ fun acts => by rw [doInvoke_state]; exact hsteps⟩
theorem vx_runU {x y : MethodName} {bytes cc : ByteArray} {maxL nL mc ms n index : Nat} {ret : Option FieldType} {ws : List Cond} {rm : Room} {Pc : Array Value → State → Prop} {Qc : Array Value → State → Outcome → State → Prop} {XC : String → State → State → Prop} {free : Addr → Prop} {Ts : List Cond} {own C owner : String} {b : Addr} {As rest : List Value} {g : JFrame}
    (S : CallFix p m c cc nL s args Ts own) (hM : vx_Met l y ws rm Pc Qc XC mc ms free) (cw : va_CU R s args own C owner index x y bytes maxL ret ws rm mc ms n) (hp : PreV s H C b Pc As)
    (hg : g.method = m) (hn : As.length = n) (hsize : g.locals.size = nL) (hstack : g.stack = As.reverse ++ .ref b :: rest) (hW : 2 * g.monitorRoom + (rest.map fun v => v.category).sum ≤ 8) (hdg : decode cc g.pc = .ok (.invokevirtual index, 3)) (hf : cells + mc ≤ R.cells ∧ slots + ms ≤ R.slots) :
    vx_Run p l e R s m args below meth c H locs cells slots mc ms g rest (Qc (Value.ref b :: As).toArray) XC free := by
  obtain ⟨hrc, hrs, hfr, hlo, hws, hcw⟩ := cw.back
  have hini := cw.init
  have hK : vx_Back l R p e below s args y 3 8 (PreOf R mc ms Pc) (PostOf Qc mc ms free) (vx_Post XC mc ms free) := vx_back (bytes := bytes) (maxL := maxL) (ret := ret) hM hp.1 hrc hrs hfr hlo hws hcw (fun a' U hW => word_at hW (Or.inl (by first | rfl | simp [Cond.onTables, Cond.keeps, Cond.steady])) hini)
  obtain ⟨hx, hb, hml, ho, -⟩ := S
  obtain ⟨-, ⟨cellB, hcB, hoB, hclB⟩, hPc⟩ := hp
  intro T hT X
  rcases vx_callVU X hx (C := C) (owner := owner) (bytes := bytes) (maxL := maxL) (ret := ret) ho cw.link cw.same cw.decl cw.notMH cw.sel cw.inst cw.code hK (by rw [hT]; exact hcB) hoB hclB hg (hsize.trans hml.symm) (argsL := As) (rest := rest) (fun sig h => hn.trans (cw.len sig h)) hstack hW (by rw [hb]; exact hdg)
    (fun vm₁ hW₁ => ⟨hf.1, hf.2, hPc (T.setVm vm₁) hT hW₁⟩) with ⟨v, vm₁, ⟨U', l2, c2, s2⟩, hW₁, X', ⟨g', mk, t, L, e1, e2, hq, h1, hL, h2, h3⟩, st⟩ | ⟨q, vm₁, ⟨U', l2, c2, s2⟩, hW₁, X', ⟨g', mk, t, L, E, ce, e1, e2, hq, hce, hcv, hcl, h1, hL, h2, h3⟩, st⟩
  · dsimp only [Pt.U, Pt.locs, Pt.cells, Pt.slots] at X' e1 e2 h1 h2 h3 st
    subst h1; subst h2; subst h3
    exact Or.inl ⟨v, (T.setVm vm₁).calling g' mk (Value.ref b :: As).toArray, t, U', L, hT, X', hL, e1, e2, hq, st⟩
  · dsimp only [Pt.U, Pt.locs, Pt.cells, Pt.slots] at X' e1 e2 h1 h2 h3 st hcl
    subst h1; subst h2; subst h3
    exact Or.inr ⟨q, (T.setVm vm₁).calling g' mk (Value.ref b :: As).toArray, t, U', L, E, ce, hT, X', hL, e1, e2, hq, hce, hcv, vx_cls hW₁ hcl, st⟩
end
/-! ===== END ===== -/
/-! ===== BEGIN super.m(..) that may throw (follows va_callSU, va_runSU) ===== -/
section
variable {p : Program} {l : Launch} {e : Env} {R : Room} {s : State} {m : MethodId} {args : Array Value} {below : List Frame} {meth : Method} {c : Code} {H : Heap} {locs : List Loc} {cells slots : Nat}
theorem vx_callSU {T : State} {locs : List Loc} {cells slots : Nat} (X : Stand p l e R s m args below meth c T locs cells slots) (hexec : p.tables.exec = Jvm.exec) {own : String} {index : Nat} {y : MethodName} {bytes : ByteArray} {maxL : Nat} {ret : Option FieldType}
    (hown : s.vm.findClass own = some m.cls) (hlink : (Cond.methodLink own index y).before args s = true) (hsame : (Cond.sameMethod y.cls y.cls y.name y.desc).before args s = true) (hsup : (Cond.superclass own y.cls).before args s = true)
    (hinst : (Cond.instanceMethod y).before args s = true) (hcode : (Cond.code y bytes maxL ret).before args s = true) (hno : y.name ≠ "<init>")
    {W : Nat} {Pre : Pt → Array Value → Prop} {Post : Pt → Array Value → Option Value → Pt → Prop} {PostX : Pt → Array Value → Addr → Pt → Prop} (hK : vx_Back l R p e below s args y 3 W Pre Post PostX)
    {b : Addr} {cellB : Cell} {kB : Class} (hcell : T.heap[b]? = some cellB) (hobj : cellB.vm.isStatics = false) (hkB : s.vm.classes[cellB.cls]? = some kB)
    {g : JFrame} (hg : g.method = m) (hsize : g.locals.size = c.maxLocals) {argsL rest : List Value} (hlen : ∀ sig, parseMethodDescriptor y.desc = some sig → argsL.length = sig.parameters.length)
    (hstack : g.stack = argsL.reverse ++ .ref b :: rest) (hW : 2 * g.monitorRoom + (rest.map fun v => v.category).sum ≤ W) (hdg : decode c.code g.pc = .ok (.invokespecial index, 3))
    (hpre : ∀ vm₁, s.WarmedH vm₁ → Pre ⟨T.setVm vm₁, locs, cells, slots⟩ (Value.ref b :: argsL).toArray) :
    (∃ (v : Option Value) (vm₁ : Vm) (B : Pt), s.WarmedH vm₁ ∧ Stand p l e R s m args below meth c B.U B.locs B.cells B.slots ∧ Post ⟨T.setVm vm₁, locs, cells, slots⟩ (Value.ref b :: argsL).toArray v B ∧
      ∀ target, Steps p.tables e below (B.U.setTop { g with pc := g.pc + 3, stack := v.toList ++ rest }) target → Steps p.tables e below (T.setTop g) target) ∨
    (∃ (q : Addr) (vm₁ : Vm) (B : Pt), s.WarmedH vm₁ ∧ Stand p l e R s m args below meth c B.U B.locs B.cells B.slots ∧ PostX ⟨T.setVm vm₁, locs, cells, slots⟩ (Value.ref b :: argsL).toArray q B ∧
      Steps p.tables e below (T.setTop g) ((B.U.setTop { g with stack := rest }).pushFrame (.throwing q))) := by
  obtain ⟨mk, methM, hnamed, hmethM, hstM, habM⟩ := Cond.instanceMethod_spec hinst
  obtain ⟨methM', cM, hmethM', -, -, -, -, -, -, hsigM⟩ := Cond.code_spec hnamed hcode
  cases hmethM.symm.trans hmethM'
  obtain ⟨ps, dk, kp, hps, hdk, hkp, hsuper, -, -, hnid⟩ := Cond.superclass_spec hown hsup
  have hn : s.methodNamed? ⟨y.cls, y.name, y.desc⟩ = some mk := hnamed
  have hpm : ps = mk.cls := Option.some.inj (hps.symm.trans (findClass_of_methodNamed hnamed))
  have hsub : s.vm.isSubclass ps mk.cls = true := by rw [hpm]; simp [Vm.isSubclass, Vm.isSubclassAux]
  obtain ⟨vm₁, X₁, hstep₁⟩ := X.invokespecialUp hexec hown hlink hsame hn hmethM hstM habM hno hdk hnid hps hsuper hsub (a := b) (cell := cellB) hcell
    (fun z h => by rw [h] at hobj; cases hobj) hkB (g := g) hg (argsL := argsL) (rest := rest) (hlen _ hsigM) hstack hdg
  rcases hK m meth c ⟨T.setVm vm₁, locs, cells, slots⟩ { g with stack := rest } (.invokespecial index) mk (Value.ref b :: argsL).toArray X₁ hg hsize hdg hW (X₁.named hnamed) (hpre vm₁ X₁.warmed) with ⟨v, B, X', hpost, hsteps⟩ | ⟨q, B, X', hpost, hsteps⟩
  · exact Or.inl ⟨v, vm₁, B, X₁.warmed, X', hpost, fun target h => hstep₁ _ (by rw [doInvoke_state]; exact hsteps.trans h)⟩
  · exact Or.inr ⟨q, vm₁, B, X₁.warmed, X', hpost, hstep₁ _ (by rw [doInvoke_state]; exact hsteps)⟩
theorem vx_runSU {y : MethodName} {bytes cc : ByteArray} {maxL nL mc ms n index : Nat} {ret : Option FieldType} {ws : List Cond} {rm : Room} {Pc : Array Value → State → Prop} {Qc : Array Value → State → Outcome → State → Prop} {XC : String → State → State → Prop} {free : Addr → Prop} {Ts : List Cond} {own C : String} {cC : ClassId} {b : Addr} {As rest : List Value} {g : JFrame}
    (hat : ClassAt s C cC) (S : CallFix p m c cc nL s args Ts own) (hM : vx_Met l y ws rm Pc Qc XC mc ms free) (cw : va_CS R s args own index y bytes maxL ret ws rm mc ms n) (hp : PreV s H C b Pc As)
    (hg : g.method = m) (hn : As.length = n) (hsize : g.locals.size = nL) (hstack : g.stack = As.reverse ++ .ref b :: rest) (hW : 2 * g.monitorRoom + (rest.map fun v => v.category).sum ≤ 8) (hdg : decode cc g.pc = .ok (.invokespecial index, 3)) (hf : cells + mc ≤ R.cells ∧ slots + ms ≤ R.slots) :
    vx_Run p l e R s m args below meth c H locs cells slots mc ms g rest (Qc (Value.ref b :: As).toArray) XC free := by
  obtain ⟨⟨hrc, hrs, hfr, hlo, hws, hcw⟩, hl1, hl2, hl3, hl4, hini, hcode, hno, hlen⟩ := cw
  have hK : vx_Back l R p e below s args y 3 8 (PreOf R mc ms Pc) (PostOf Qc mc ms free) (vx_Post XC mc ms free) := vx_back (bytes := bytes) (maxL := maxL) (ret := ret) hM hp.1 hrc hrs hfr hlo hws hcw (fun a' U hW => word_at hW (Or.inl (by first | rfl | simp [Cond.onTables, Cond.keeps, Cond.steady])) hini)
  obtain ⟨hx, hb, hml, ho, -⟩ := S
  obtain ⟨-, ⟨cellB, hcB, hoB, hclB⟩, hPc⟩ := hp
  obtain ⟨hfc, kB, hkB, -⟩ := hat
  cases hfc.symm.trans hclB
  intro T hT X
  rcases vx_callSU X hx (bytes := bytes) (maxL := maxL) (ret := ret) ho hl1 hl2 hl3 hl4 hcode hno hK (by rw [hT]; exact hcB) hoB hkB hg (hsize.trans hml.symm) (argsL := As) (rest := rest) (fun sig h => hn.trans (hlen sig h)) hstack hW (by rw [hb]; exact hdg)
    (fun vm₁ hW₁ => ⟨hf.1, hf.2, hPc (T.setVm vm₁) hT hW₁⟩) with ⟨v, vm₁, ⟨U', l2, c2, s2⟩, hW₁, X', ⟨g', mk, t, L, e1, e2, hq, h1, hL, h2, h3⟩, st⟩ | ⟨q, vm₁, ⟨U', l2, c2, s2⟩, hW₁, X', ⟨g', mk, t, L, E, ce, e1, e2, hq, hce, hcv, hcl, h1, hL, h2, h3⟩, st⟩
  · dsimp only [Pt.U, Pt.locs, Pt.cells, Pt.slots] at X' e1 e2 h1 h2 h3 st
    subst h1; subst h2; subst h3
    exact Or.inl ⟨v, (T.setVm vm₁).calling g' mk (Value.ref b :: As).toArray, t, U', L, hT, X', hL, e1, e2, hq, st⟩
  · dsimp only [Pt.U, Pt.locs, Pt.cells, Pt.slots] at X' e1 e2 h1 h2 h3 st hcl
    subst h1; subst h2; subst h3
    exact Or.inr ⟨q, (T.setVm vm₁).calling g' mk (Value.ref b :: As).toArray, t, U', L, E, ce, hT, X', hL, e1, e2, hq, hce, hcv, vx_cls hW₁ hcl, st⟩
end
/-! ===== END ===== -/
/-! ===== BEGIN a private method of a nest mate that may throw (follows va_callVN, va_callSN, va_runVN, va_runSN) ===== -/
section
variable {p : Program} {l : Launch} {e : Env} {R : Room} {s : State} {m : MethodId} {args : Array Value} {below : List Frame} {meth : Method} {c : Code} {H : Heap} {locs : List Loc} {cells slots : Nat}
variable {T : State}
theorem vx_callVN (X : Stand p l e R s m args below meth c T locs cells slots) (hexec : p.tables.exec = Jvm.exec) {own C : String} {index : Nat} {host : String} {y : MethodName} {bytes : ByteArray} {maxL : Nat} {ret : Option FieldType}
    (hown : s.vm.findClass own = some m.cls) (hlink : (Cond.methodLinkNest own index y host).before args s = true) (hinst : (Cond.instanceMethod y).before args s = true) (hsel : (Cond.selects C y y).before args s = true)
    (hcode : (Cond.code y bytes maxL ret).before args s = true) (hy : y.cls ≠ "java/lang/invoke/MethodHandle" ∧ y.cls ≠ "java/lang/invoke/VarHandle")
    {W : Nat} {Pre : Pt → Array Value → Prop} {Post : Pt → Array Value → Option Value → Pt → Prop} {PostX : Pt → Array Value → Addr → Pt → Prop} (hK : vx_Back l R p e below s args y 3 W Pre Post PostX)
    {b : Addr} {cellB : Cell} (hcell : T.heap[b]? = some cellB) (hobj : cellB.vm.isStatics = false) (hcls : s.vm.findClass C = some cellB.cls)
    {g : JFrame} (hg : g.method = m) (hsize : g.locals.size = c.maxLocals) {argsL rest : List Value} (hlen : ∀ sig, parseMethodDescriptor y.desc = some sig → argsL.length = sig.parameters.length)
    (hstack : g.stack = argsL.reverse ++ .ref b :: rest) (hW : 2 * g.monitorRoom + (rest.map fun v => v.category).sum ≤ W) (hdg : decode c.code g.pc = .ok (.invokevirtual index, 3))
    (hpre : ∀ vm₁, s.WarmedH vm₁ → Pre ⟨T.setVm vm₁, locs, cells, slots⟩ (Value.ref b :: argsL).toArray) :
    (∃ (v : Option Value) (vm₁ : Vm) (B : Pt), s.WarmedH vm₁ ∧ Stand p l e R s m args below meth c B.U B.locs B.cells B.slots ∧ Post ⟨T.setVm vm₁, locs, cells, slots⟩ (Value.ref b :: argsL).toArray v B ∧
      ∀ target, Steps p.tables e below (B.U.setTop { g with pc := g.pc + 3, stack := v.toList ++ rest }) target → Steps p.tables e below (T.setTop g) target) ∨
    (∃ (q : Addr) (vm₁ : Vm) (B : Pt), s.WarmedH vm₁ ∧ Stand p l e R s m args below meth c B.U B.locs B.cells B.slots ∧ PostX ⟨T.setVm vm₁, locs, cells, slots⟩ (Value.ref b :: argsL).toArray q B ∧
      Steps p.tables e below (T.setTop g) ((B.U.setTop { g with stack := rest }).pushFrame (.throwing q))) := by
  obtain ⟨mk, methM, hnamed, hmethM, hstM, habM⟩ := Cond.instanceMethod_spec hinst
  obtain ⟨methM', cM, hmethM', -, -, -, -, -, -, hsigM⟩ := Cond.code_spec hnamed hcode
  cases hmethM.symm.trans hmethM'
  obtain ⟨c2, r2, m2, q1, q2, q3, q4, kP, hkP, hkPi⟩ := Cond.selects_spec hsel
  cases hcls.symm.trans q1
  cases (State.methodFound?_of_named hnamed hy).symm.trans q2
  cases hnamed.symm.trans q3
  have hselP : selectMethod e.platform s.vm cellB.cls mk = .method mk := by rw [Launch.admits_selectMethod X.admits]; exact q4
  obtain ⟨vm₁, X₁, hstep₁⟩ := X.invokevirtualNest hexec hown hlink hnamed hmethM hstM hkP hkPi hy (a := b) (cell := cellB) hcell
    (fun z h => by rw [h] at hobj; cases hobj) hselP hmethM habM hkP hkPi (g := g) hg (argsL := argsL) (rest := rest) (hlen _ hsigM) hstack hdg
  rcases hK m meth c ⟨T.setVm vm₁, locs, cells, slots⟩ { g with stack := rest } (.invokevirtual index) mk (Value.ref b :: argsL).toArray X₁ hg hsize hdg hW (X₁.named hnamed) (hpre vm₁ X₁.warmed) with ⟨v, B, X', hpost, hsteps⟩ | ⟨q, B, X', hpost, hsteps⟩
  · exact Or.inl ⟨v, vm₁, B, X₁.warmed, X', hpost, fun target h => hstep₁ _ fun acts => by rw [doInvoke_state]; exact hsteps.trans h⟩
  · exact Or.inr ⟨q, vm₁, B, X₁.warmed, X', hpost, hstep₁ _ fun acts => by rw [doInvoke_state]; exact hsteps⟩
theorem vx_callSN (X : Stand p l e R s m args below meth c T locs cells slots) (hexec : p.tables.exec = Jvm.exec) {own : String} {index : Nat} {host : String} {y : MethodName} {bytes : ByteArray} {maxL : Nat} {ret : Option FieldType}
    (hown : s.vm.findClass own = some m.cls) (hlink : (Cond.methodLinkNest own index y host).before args s = true) (hstat : (Cond.static y).before args s = true) (hinit : (Cond.initialized y.cls).before args s = true)
    (hcode : (Cond.code y bytes maxL ret).before args s = true) (hy : y.cls ≠ "java/lang/invoke/MethodHandle" ∧ y.cls ≠ "java/lang/invoke/VarHandle")
    {W : Nat} {Pre : Pt → Array Value → Prop} {Post : Pt → Array Value → Option Value → Pt → Prop} {PostX : Pt → Array Value → Addr → Pt → Prop} (hK : vx_Back l R p e below s args y 3 W Pre Post PostX)
    {g : JFrame} (hg : g.method = m) (hsize : g.locals.size = c.maxLocals) {argsL rest : List Value} (hlen : ∀ sig, parseMethodDescriptor y.desc = some sig → argsL.length = sig.parameters.length)
    (hstack : g.stack = argsL.reverse ++ rest) (hW : 2 * g.monitorRoom + (rest.map fun v => v.category).sum ≤ W) (hdg : decode c.code g.pc = .ok (.invokestatic index, 3))
    (hpre : ∀ vm₁, s.WarmedH vm₁ → Pre ⟨T.setVm vm₁, locs, cells, slots⟩ argsL.toArray) :
    (∃ (v : Option Value) (vm₁ : Vm) (B : Pt), s.WarmedH vm₁ ∧ Stand p l e R s m args below meth c B.U B.locs B.cells B.slots ∧ Post ⟨T.setVm vm₁, locs, cells, slots⟩ argsL.toArray v B ∧
      ∀ target, Steps p.tables e below (B.U.setTop { g with pc := g.pc + 3, stack := v.toList ++ rest }) target → Steps p.tables e below (T.setTop g) target) ∨
    (∃ (q : Addr) (vm₁ : Vm) (B : Pt), s.WarmedH vm₁ ∧ Stand p l e R s m args below meth c B.U B.locs B.cells B.slots ∧ PostX ⟨T.setVm vm₁, locs, cells, slots⟩ argsL.toArray q B ∧
      Steps p.tables e below (T.setTop g) ((B.U.setTop { g with stack := rest }).pushFrame (.throwing q))) := by
  obtain ⟨mk, hnamed⟩ := Cond.code_named hcode
  obtain ⟨methM, cM, hmethM, -, -, -, -, -, -, hsigM⟩ := Cond.code_spec hnamed hcode
  have hstatic : methM.isStatic = true := Cond.static_spec hnamed hmethM hstat
  obtain ⟨kP, hkP, -⟩ := className_of_methodNamed hnamed
  have hinitP : kP.init = .initialized := Cond.initialized_spec (findClass_of_methodNamed hnamed) hkP hinit
  obtain ⟨vm₁, X₁, hstep₁⟩ := X.invokestaticNest hexec hown hlink hnamed hmethM hstatic hkP hinitP hy (g := g) hg (argsL := argsL) (rest := rest) (hlen _ hsigM) hstack hdg
  rcases hK m meth c ⟨T.setVm vm₁, locs, cells, slots⟩ { g with stack := rest } (.invokestatic index) mk argsL.toArray X₁ hg hsize hdg hW (X₁.named hnamed) (hpre vm₁ X₁.warmed) with ⟨v, B, X', hpost, hsteps⟩ | ⟨q, B, X', hpost, hsteps⟩
  · exact Or.inl ⟨v, vm₁, B, X₁.warmed, X', hpost, fun target h => hstep₁ _ fun acts => by rw [doInvoke_state]; exact hsteps.trans h⟩
  · exact Or.inr ⟨q, vm₁, B, X₁.warmed, X', hpost, hstep₁ _ fun acts => by rw [doInvoke_state]; exact hsteps⟩
theorem vx_runVN {y : MethodName} {bytes cc : ByteArray} {maxL nL mc ms n index : Nat} {ret : Option FieldType} {ws : List Cond} {rm : Room} {Pc : Array Value → State → Prop} {Qc : Array Value → State → Outcome → State → Prop} {XC : String → State → State → Prop} {free : Addr → Prop} {Ts : List Cond} {own C host : String} {b : Addr} {As rest : List Value} {g : JFrame}
    (S : CallFix p m c cc nL s args Ts own) (hM : vx_Met l y ws rm Pc Qc XC mc ms free) (cw : va_CN R s args own index y host bytes maxL ret ws rm mc ms n ∧ (Cond.instanceMethod y).before args s = true ∧ (Cond.selects C y y).before args s = true) (hp : PreV s H C b Pc As)
    (hg : g.method = m) (hn : As.length = n) (hsize : g.locals.size = nL) (hstack : g.stack = As.reverse ++ .ref b :: rest) (hW : 2 * g.monitorRoom + (rest.map fun v => v.category).sum ≤ 8) (hdg : decode cc g.pc = .ok (.invokevirtual index, 3)) (hf : cells + mc ≤ R.cells ∧ slots + ms ≤ R.slots) :
    vx_Run p l e R s m args below meth c H locs cells slots mc ms g rest (Qc (Value.ref b :: As).toArray) XC free := by
  obtain ⟨⟨⟨hrc, hrs, hfr, hlo, hws, hcw⟩, hcode, hini, hy, hlen, hl⟩, hx1, hx2⟩ := cw
  have hK : vx_Back l R p e below s args y 3 8 (PreOf R mc ms Pc) (PostOf Qc mc ms free) (vx_Post XC mc ms free) := vx_back (bytes := bytes) (maxL := maxL) (ret := ret) hM hp.1 hrc hrs hfr hlo hws hcw (fun a' U hW => word_at hW (Or.inl (by first | rfl | simp [Cond.onTables, Cond.keeps, Cond.steady])) hini)
  obtain ⟨hx, hb, hml, ho, -⟩ := S
  obtain ⟨-, ⟨cellB, hcB, hoB, hclB⟩, hPc⟩ := hp
  intro T hT X
  rcases vx_callVN X hx (C := C) (bytes := bytes) (maxL := maxL) (ret := ret) ho hl hx1 hx2 hcode hy hK (by rw [hT]; exact hcB) hoB hclB hg (hsize.trans hml.symm) (argsL := As) (rest := rest) (fun sig h => hn.trans (hlen sig h)) hstack hW (by rw [hb]; exact hdg)
    (fun vm₁ hW₁ => ⟨hf.1, hf.2, hPc (T.setVm vm₁) hT hW₁⟩) with ⟨v, vm₁, ⟨U', l2, c2, s2⟩, hW₁, X', ⟨g', mk, t, L, e1, e2, hq, h1, hL, h2, h3⟩, st⟩ | ⟨q, vm₁, ⟨U', l2, c2, s2⟩, hW₁, X', ⟨g', mk, t, L, E, ce, e1, e2, hq, hce, hcv, hcl, h1, hL, h2, h3⟩, st⟩
  · dsimp only [Pt.U, Pt.locs, Pt.cells, Pt.slots] at X' e1 e2 h1 h2 h3 st
    subst h1; subst h2; subst h3
    exact Or.inl ⟨v, (T.setVm vm₁).calling g' mk (Value.ref b :: As).toArray, t, U', L, hT, X', hL, e1, e2, hq, st⟩
  · dsimp only [Pt.U, Pt.locs, Pt.cells, Pt.slots] at X' e1 e2 h1 h2 h3 st hcl
    subst h1; subst h2; subst h3
    exact Or.inr ⟨q, (T.setVm vm₁).calling g' mk (Value.ref b :: As).toArray, t, U', L, E, ce, hT, X', hL, e1, e2, hq, hce, hcv, vx_cls hW₁ hcl, st⟩
theorem vx_runSN {y : MethodName} {bytes cc : ByteArray} {maxL nL mc ms n index : Nat} {ret : Option FieldType} {ws : List Cond} {rm : Room} {Pc : Array Value → State → Prop} {Qc : Array Value → State → Outcome → State → Prop} {XC : String → State → State → Prop} {free : Addr → Prop} {Ts : List Cond} {own host : String} {As rest : List Value} {g : JFrame}
    (S : CallFix p m c cc nL s args Ts own) (hM : vx_Met l y ws rm Pc Qc XC mc ms free) (cw : va_CN R s args own index y host bytes maxL ret ws rm mc ms n ∧ (Cond.static y).before args s = true ∧ True) (hp : PreS s H Pc As)
    (hg : g.method = m) (hn : As.length = n) (hsize : g.locals.size = nL) (hstack : g.stack = As.reverse ++ rest) (hW : 2 * g.monitorRoom + (rest.map fun v => v.category).sum ≤ 8) (hdg : decode cc g.pc = .ok (.invokestatic index, 3)) (hf : cells + mc ≤ R.cells ∧ slots + ms ≤ R.slots) :
    vx_Run p l e R s m args below meth c H locs cells slots mc ms g rest (Qc As.toArray) XC free := by
  obtain ⟨⟨⟨hrc, hrs, hfr, hlo, hws, hcw⟩, hcode, hini, hy, hlen, hl⟩, hx1, hx2⟩ := cw
  have hK : vx_Back l R p e below s args y 3 8 (PreOf R mc ms Pc) (PostOf Qc mc ms free) (vx_Post XC mc ms free) := vx_back (bytes := bytes) (maxL := maxL) (ret := ret) hM hp.1 hrc hrs hfr hlo hws hcw (fun a' U hW => word_at hW (Or.inl (by first | rfl | simp [Cond.onTables, Cond.keeps, Cond.steady])) hini)
  obtain ⟨hx, hb, hml, ho, -⟩ := S
  have hPc := hp.2
  intro T hT X
  rcases vx_callSN X hx (bytes := bytes) (maxL := maxL) (ret := ret) ho hl hx1 hini hcode hy hK hg (hsize.trans hml.symm) (argsL := As) (rest := rest) (fun sig h => hn.trans (hlen sig h)) hstack hW (by rw [hb]; exact hdg)
    (fun vm₁ hW₁ => ⟨hf.1, hf.2, hPc (T.setVm vm₁) hT hW₁⟩) with ⟨v, vm₁, ⟨U', l2, c2, s2⟩, hW₁, X', ⟨g', mk, t, L, e1, e2, hq, h1, hL, h2, h3⟩, st⟩ | ⟨q, vm₁, ⟨U', l2, c2, s2⟩, hW₁, X', ⟨g', mk, t, L, E, ce, e1, e2, hq, hce, hcv, hcl, h1, hL, h2, h3⟩, st⟩
  · dsimp only [Pt.U, Pt.locs, Pt.cells, Pt.slots] at X' e1 e2 h1 h2 h3 st
    subst h1; subst h2; subst h3
    exact Or.inl ⟨v, (T.setVm vm₁).calling g' mk As.toArray, t, U', L, hT, X', hL, e1, e2, hq, st⟩
  · dsimp only [Pt.U, Pt.locs, Pt.cells, Pt.slots] at X' e1 e2 h1 h2 h3 st hcl
    subst h1; subst h2; subst h3
    exact Or.inr ⟨q, (T.setVm vm₁).calling g' mk As.toArray, t, U', L, E, ce, hT, X', hL, e1, e2, hq, hce, hcv, vx_cls hW₁ hcl, st⟩
end
/-! ===== END ===== -/
/-! ===== BEGIN calls by an interface of methods that may throw (vx_callIF, vx_runF follow va_callIF, va_runF of this kit) ===== -/
section
variable {p : Program} {l : Launch} {e : Env} {R : Room} {s : State} {m : MethodId} {args : Array Value} {below : List Frame} {meth : Method} {c : Code} {H : Heap} {locs : List Loc} {cells slots : Nat} {Q : State → Prop}
variable {mc ms : Nat} {free : Addr → Prop} {A0 A1 : Nat → Prop} {H0 : Heap} {a : Array Value} {pc : Nat} {ls : Array Slot} {st0 rest : List Value}
def vx_Run5 (p : Program) (l : Launch) (e : Env) (R : Room) (s : State) (m : MethodId) (args : Array Value) (below : List Frame) (meth : Method) (c : Code) (H : Heap) (locs : List Loc) (cells slots mc ms : Nat) (g : JFrame) (rest : List Value) (Qa : State → Outcome → State → Prop) (XC : String → State → State → Prop) (free : Addr → Prop) : Prop :=
  ∀ T : State, T.heap = H → Stand p l e R s m args below meth c T locs cells slots →
    (∃ (v : Option Value) (st₀ t T' : State) (L : List Loc), st₀.heap = H ∧ Stand p l e R s m args below meth c T' (locs ++ L) (cells + mc) (slots + ms) ∧ (∀ q ∈ L, free q.base) ∧ T'.heap = t.heap ∧ T'.vm = t.vm ∧ Qa st₀ (.returned v) t ∧
      Goes p e below T g T' { g with pc := g.pc + 5, stack := v.toList ++ rest }) ∨
    (∃ (q : Addr) (st₀ t T' : State) (L : List Loc) (E : String) (ce : Cell), st₀.heap = H ∧ Stand p l e R s m args below meth c T' (locs ++ L) (cells + mc) (slots + ms) ∧ (∀ z ∈ L, free z.base) ∧ T'.heap = t.heap ∧ T'.vm = t.vm ∧ XC E st₀ t ∧ t.heap[q]? = some ce ∧ ce.vm = .none ∧ s.vm.findClass E = some ce.cls ∧
      Steps p.tables e below (T.setTop g) ((T'.setTop { g with stack := rest }).pushFrame (.throwing q)))
theorem vx_callIF {T : State} (X : Stand p l e R s m args below meth c T locs cells slots) (hexec : p.tables.exec = Jvm.exec) {own C : String} {index count : Nat} {x y : MethodName} {bytes : ByteArray} {maxL : Nat} {ret : Option FieldType}
    (hown : s.vm.findClass own = some m.cls) (hlink : (Cond.methodLink own index x).before args s = true) (hdecl : (Cond.declares x).before args s = true) (hface : (Cond.interfaceMethod x.cls x.cls x.name x.desc).before args s = true)
    (hsel : (Cond.selects C x y).before args s = true) (hinst : (Cond.instanceMethod y).before args s = true) (hpub : (Cond.publicMethod y).before args s = true) (hunh : (Cond.unhidden C x.name x.desc).before args s = true)
    (hcast : (Cond.castable C x.cls).before args s = true) (hcode : (Cond.code y bytes maxL ret).before args s = true) (hx : x.cls ≠ "java/lang/invoke/MethodHandle" ∧ x.cls ≠ "java/lang/invoke/VarHandle")
    {W9 : Nat} {Pre : Pt → Array Value → Prop} {Post : Pt → Array Value → Option Value → Pt → Prop} {PostX : Pt → Array Value → Addr → Pt → Prop} (hK : vx_Back l R p e below s args y 5 W9 Pre Post PostX)
    {b : Addr} {cellB : Cell} {kB : Class} (hcell : T.heap[b]? = some cellB) (hobj : cellB.vm.isStatics = false) (hcls : s.vm.findClass C = some cellB.cls) (hkB : s.vm.classes[cellB.cls]? = some kB)
    {g : JFrame} (hg : g.method = m) (hsize : g.locals.size = c.maxLocals) {argsL rest : List Value} (hlen : ∀ sig, parseMethodDescriptor x.desc = some sig → argsL.length = sig.parameters.length)
    (hstack : g.stack = argsL.reverse ++ .ref b :: rest) (hW : 2 * g.monitorRoom + (rest.map fun v => v.category).sum ≤ W9) (hdg : decode c.code g.pc = .ok (.invokeinterface index count, 5))
    (hpre : ∀ vm₁, s.WarmedH vm₁ → Pre ⟨T.setVm vm₁, locs, cells, slots⟩ (Value.ref b :: argsL).toArray) :
    (∃ (v : Option Value) (vm₁ : Vm) (B : Pt), s.WarmedH vm₁ ∧ Stand p l e R s m args below meth c B.U B.locs B.cells B.slots ∧ Post ⟨T.setVm vm₁, locs, cells, slots⟩ (Value.ref b :: argsL).toArray v B ∧
      ∀ target, Steps p.tables e below (B.U.setTop { g with pc := g.pc + 5, stack := v.toList ++ rest }) target → Steps p.tables e below (T.setTop g) target) ∨
    (∃ (q : Addr) (vm₁ : Vm) (B : Pt), s.WarmedH vm₁ ∧ Stand p l e R s m args below meth c B.U B.locs B.cells B.slots ∧ PostX ⟨T.setVm vm₁, locs, cells, slots⟩ (Value.ref b :: argsL).toArray q B ∧
      Steps p.tables e below (T.setTop g) ((B.U.setTop { g with stack := rest }).pushFrame (.throwing q))) := by
  obtain ⟨r0, r, hn, hrm, hstR, hsigR⟩ := Cond.declares_spec hdecl
  obtain ⟨cL, kL, r1, hcL, hkL, hiL, hfoundL, hn1⟩ := Cond.interfaceMethod_spec hface
  cases hn.symm.trans hn1
  have hr0cls : r0.cls = cL := Option.some.inj ((findClass_of_methodNamed hn).symm.trans hcL)
  obtain ⟨hnameR, hdescR⟩ := name_of_methodNamed hn hrm
  obtain ⟨mk, methM, hnamed, hmethM, -, habM⟩ := Cond.instanceMethod_spec hinst
  obtain ⟨c2, r2, m2, q1, q2, q3, q4, -⟩ := Cond.selects_spec hsel
  cases hcls.symm.trans q1
  cases hfoundL.symm.trans q2
  cases hnamed.symm.trans q3
  have hselP : selectMethod e.platform s.vm cellB.cls r0 = .method mk := by rw [Launch.admits_selectMethod X.admits]; exact q4
  have hpubM : hasFlag methM.accessFlags Acc.public_ = true := Cond.publicMethod_spec hnamed hmethM hpub
  have hway : ((cellB.cls :: s.vm.superclasses cellB.cls).any fun k => (declaredIn s.vm r.name r.desc k).any fun (_, z) => z.isPrivate || z.isStatic) = false := by
    rw [hnameR, hdescR]; exact Cond.unhidden_spec hcls hunh
  obtain ⟨c3, t3, w1, w2, w3⟩ := Cond.castable_spec hcast
  cases hcls.symm.trans w1
  cases hcL.symm.trans w2
  obtain ⟨vm₁, X₁, hstep₁⟩ := X.invokeinterface hexec hown hlink hn hrm hstR (by rw [hr0cls]; exact hkL) hiL hx (a := b) (cell := cellB) (kcell := kB) hcell
    (fun z h => by rw [h] at hobj; cases hobj) hkB (by rw [hr0cls]; exact w3) hselP hmethM hway hpubM habM (g := g) hg (argsL := argsL) (rest := rest) (hlen _ hsigR) hstack hdg
  rcases hK m meth c ⟨T.setVm vm₁, locs, cells, slots⟩ { g with stack := rest } (.invokeinterface index count) mk (Value.ref b :: argsL).toArray X₁ hg hsize hdg hW (X₁.named hnamed) (hpre vm₁ X₁.warmed) with ⟨v, B, X', hpost, hsteps⟩ | ⟨q, B, X', hpost, hsteps⟩
  · exact Or.inl ⟨v, vm₁, B, X₁.warmed, X', hpost, fun target h => hstep₁ _ fun acts => by rw [doInvoke_state]; exact hsteps.trans h⟩
  · exact Or.inr ⟨q, vm₁, B, X₁.warmed, X', hpost, hstep₁ _ fun acts => by rw [doInvoke_state]; exact hsteps⟩
theorem vx_runF {x y : MethodName} {bytes cc : ByteArray} {maxL nL mc ms n index count : Nat} {ret : Option FieldType} {ws : List Cond} {rm : Room} {Pc : Array Value → State → Prop} {Qc : Array Value → State → Outcome → State → Prop} {XC : String → State → State → Prop} {free : Addr → Prop} {Ts : List Cond} {own C : String} {cC : ClassId} {b : Addr} {As rest : List Value} {g : JFrame}
    (hat : ClassAt s C cC) (S : CallFix p m c cc nL s args Ts own) (hM : vx_Met l y ws rm Pc Qc XC mc ms free) (cw : va_CI R s args own C index x y bytes maxL ret ws rm mc ms n) (hp : PreV s H C b Pc As)
    (hg : g.method = m) (hn : As.length = n) (hsize : g.locals.size = nL) (hstack : g.stack = As.reverse ++ .ref b :: rest) (hW : 2 * g.monitorRoom + (rest.map fun v => v.category).sum ≤ 8) (hdg : decode cc g.pc = .ok (.invokeinterface index count, 5)) (hf : cells + mc ≤ R.cells ∧ slots + ms ≤ R.slots) :
    vx_Run5 p l e R s m args below meth c H locs cells slots mc ms g rest (Qc (Value.ref b :: As).toArray) XC free := by
  obtain ⟨hrc, hrs, hfr, hlo, hws, hcw⟩ := cw.back
  have hini := cw.init
  have hK : vx_Back l R p e below s args y 5 8 (PreOf R mc ms Pc) (PostOf Qc mc ms free) (vx_Post XC mc ms free) := vx_back (bytes := bytes) (maxL := maxL) (ret := ret) hM hp.1 hrc hrs hfr hlo hws hcw (fun a' U hW => word_at hW (Or.inl (by first | rfl | simp [Cond.onTables, Cond.keeps, Cond.steady])) hini)
  obtain ⟨hx, hb, hml, ho, -⟩ := S
  obtain ⟨-, ⟨cellB, hcB, hoB, hclB⟩, hPc⟩ := hp
  obtain ⟨hfc, kB, hkB, -⟩ := hat
  cases hfc.symm.trans hclB
  intro T hT X
  rcases vx_callIF X hx (C := C) (bytes := bytes) (maxL := maxL) (ret := ret) ho cw.link cw.decl cw.face cw.sel cw.inst cw.pub cw.unh cw.cast cw.code cw.notMH hK (by rw [hT]; exact hcB) hoB hclB hkB hg (hsize.trans hml.symm) (argsL := As) (rest := rest) (fun sig h => hn.trans (cw.len sig h)) hstack hW (by rw [hb]; exact hdg)
    (fun vm₁ hW₁ => ⟨hf.1, hf.2, hPc (T.setVm vm₁) hT hW₁⟩) with ⟨v, vm₁, ⟨U', l2, c2, s2⟩, hW₁, X', ⟨g', mk, t, L, e1, e2, hq, h1, hL, h2, h3⟩, st⟩ | ⟨q, vm₁, ⟨U', l2, c2, s2⟩, hW₁, X', ⟨g', mk, t, L, E, ce, e1, e2, hq, hce, hcv, hcl, h1, hL, h2, h3⟩, st⟩
  · dsimp only [Pt.U, Pt.locs, Pt.cells, Pt.slots] at X' e1 e2 h1 h2 h3 st
    subst h1; subst h2; subst h3
    exact Or.inl ⟨v, (T.setVm vm₁).calling g' mk (Value.ref b :: As).toArray, t, U', L, hT, X', hL, e1, e2, hq, st⟩
  · dsimp only [Pt.U, Pt.locs, Pt.cells, Pt.slots] at X' e1 e2 h1 h2 h3 st hcl
    subst h1; subst h2; subst h3
    exact Or.inr ⟨q, (T.setVm vm₁).calling g' mk (Value.ref b :: As).toArray, t, U', L, E, ce, hT, X', hL, e1, e2, hq, hce, hcv, vx_cls hW₁ hcl, st⟩
theorem vx_callFv {S SX : Type} {post : S → Prop} {px : SX → Prop} {B : S → State → Prop} {BX : String → SX → State → Prop} {AX : Nat → Prop} (hr : vx_Run5 p l e R s m args below meth c H locs cells slots mc ms (F0 m pc ls st0) rest (va_Qv post B A1 a) (vx_X px BX AX) free) (hS : va_S A0 H0 H locs) (hA : ∀ q, q < H.size → A1 q → A0 q) (hf : ∀ q, free q → A0 q) (hAX : ∀ q, q < H.size → AX q → A0 q)
    (kx : ∀ (E : String) (ce : Cell) (q9 : Addr) (u : SX) (t : State) (H1 : Heap) (locs1 : List Loc), t.heap = H1 → s.vm.Alike t.vm → px u → BX E u t → H.size ≤ H1.size → (∀ q : Nat, q < H.size → ¬ AX q → H1[q]? = H[q]?) → va_S A0 H0 H1 locs1 → H1[q9]? = some ce → ce.vm = .none → s.vm.findClass E = some ce.cls → vx_W p l e R s m args below meth c H1 locs1 (cells + mc) (slots + ms) Q (F0 m pc ls rest) q9)
    (kk : ∀ (u : S) (t : State) (H1 : Heap) (locs1 : List Loc), t.heap = H1 → s.vm.Alike t.vm → post u → B u t → H.size ≤ H1.size → (∀ q : Nat, q < H.size → ¬ A1 q → H1[q]? = H[q]?) → va_S A0 H0 H1 locs1 → W p l e R s m args below meth c H1 locs1 (cells + mc) (slots + ms) Q (F0 m (pc + 5) ls (rest))) : W p l e R s m args below meth c H locs cells slots Q (F0 m pc ls st0) := by
  intro T hT X
  rcases hr T hT X with ⟨v, st₀, t, T', L, h0, X', hL, e1, e2, ⟨⟨u, hv, hp, hb⟩, hF⟩, st⟩ | ⟨q, st₀, t, T', L, E, ce, h0, X', hL, e1, e2, ⟨u, hp, hb, hF⟩, hce, hcv, hcl, st⟩
  · cases hv
    obtain ⟨k1, k2, k3⟩ := vx_keep h0 e1 hS hA hf hL hF
    obtain ⟨t2, a1, b1⟩ := kk u t T'.heap (locs ++ L) e1.symm (by rw [← e2]; exact X'.warmed.alike) hp hb k1 k2 k3 T' rfl X'
    exact ⟨t2, st t2 a1, b1⟩
  · obtain ⟨k1, k2, k3⟩ := vx_keep h0 e1 hS hAX hf hL hF
    obtain ⟨t2, a1, b1⟩ := kx E ce q u t T'.heap (locs ++ L) e1.symm (by rw [← e2]; exact X'.warmed.alike) hp hb k1 k2 k3 (by rw [e1]; exact hce) hcv hcl T' rfl X'
    exact ⟨t2, st.trans a1, b1⟩
theorem vx_callFi {S SX : Type} {post : Int32 → S → Prop} {px : SX → Prop} {B : S → State → Prop} {BX : String → SX → State → Prop} {AX : Nat → Prop} (hr : vx_Run5 p l e R s m args below meth c H locs cells slots mc ms (F0 m pc ls st0) rest (va_Qi post B A1 a) (vx_X px BX AX) free) (hS : va_S A0 H0 H locs) (hA : ∀ q, q < H.size → A1 q → A0 q) (hf : ∀ q, free q → A0 q) (hAX : ∀ q, q < H.size → AX q → A0 q)
    (kx : ∀ (E : String) (ce : Cell) (q9 : Addr) (u : SX) (t : State) (H1 : Heap) (locs1 : List Loc), t.heap = H1 → s.vm.Alike t.vm → px u → BX E u t → H.size ≤ H1.size → (∀ q : Nat, q < H.size → ¬ AX q → H1[q]? = H[q]?) → va_S A0 H0 H1 locs1 → H1[q9]? = some ce → ce.vm = .none → s.vm.findClass E = some ce.cls → vx_W p l e R s m args below meth c H1 locs1 (cells + mc) (slots + ms) Q (F0 m pc ls rest) q9)
    (kk : ∀ (r : Int32) (u : S) (t : State) (H1 : Heap) (locs1 : List Loc), t.heap = H1 → s.vm.Alike t.vm → post r u → B u t → H.size ≤ H1.size → (∀ q : Nat, q < H.size → ¬ A1 q → H1[q]? = H[q]?) → va_S A0 H0 H1 locs1 → W p l e R s m args below meth c H1 locs1 (cells + mc) (slots + ms) Q (F0 m (pc + 5) ls (.int r :: rest))) : W p l e R s m args below meth c H locs cells slots Q (F0 m pc ls st0) := by
  intro T hT X
  rcases hr T hT X with ⟨v, st₀, t, T', L, h0, X', hL, e1, e2, ⟨⟨r, u, hv, hp, hb⟩, hF⟩, st⟩ | ⟨q, st₀, t, T', L, E, ce, h0, X', hL, e1, e2, ⟨u, hp, hb, hF⟩, hce, hcv, hcl, st⟩
  · cases hv
    obtain ⟨k1, k2, k3⟩ := vx_keep h0 e1 hS hA hf hL hF
    obtain ⟨t2, a1, b1⟩ := kk r u t T'.heap (locs ++ L) e1.symm (by rw [← e2]; exact X'.warmed.alike) hp hb k1 k2 k3 T' rfl X'
    exact ⟨t2, st t2 a1, b1⟩
  · obtain ⟨k1, k2, k3⟩ := vx_keep h0 e1 hS hAX hf hL hF
    obtain ⟨t2, a1, b1⟩ := kx E ce q u t T'.heap (locs ++ L) e1.symm (by rw [← e2]; exact X'.warmed.alike) hp hb k1 k2 k3 (by rw [e1]; exact hce) hcv hcl T' rfl X'
    exact ⟨t2, st.trans a1, b1⟩
theorem vx_callFl {S SX : Type} {post : Int64 → S → Prop} {px : SX → Prop} {B : S → State → Prop} {BX : String → SX → State → Prop} {AX : Nat → Prop} (hr : vx_Run5 p l e R s m args below meth c H locs cells slots mc ms (F0 m pc ls st0) rest (va_Ql post B A1 a) (vx_X px BX AX) free) (hS : va_S A0 H0 H locs) (hA : ∀ q, q < H.size → A1 q → A0 q) (hf : ∀ q, free q → A0 q) (hAX : ∀ q, q < H.size → AX q → A0 q)
    (kx : ∀ (E : String) (ce : Cell) (q9 : Addr) (u : SX) (t : State) (H1 : Heap) (locs1 : List Loc), t.heap = H1 → s.vm.Alike t.vm → px u → BX E u t → H.size ≤ H1.size → (∀ q : Nat, q < H.size → ¬ AX q → H1[q]? = H[q]?) → va_S A0 H0 H1 locs1 → H1[q9]? = some ce → ce.vm = .none → s.vm.findClass E = some ce.cls → vx_W p l e R s m args below meth c H1 locs1 (cells + mc) (slots + ms) Q (F0 m pc ls rest) q9)
    (kk : ∀ (r : Int64) (u : S) (t : State) (H1 : Heap) (locs1 : List Loc), t.heap = H1 → s.vm.Alike t.vm → post r u → B u t → H.size ≤ H1.size → (∀ q : Nat, q < H.size → ¬ A1 q → H1[q]? = H[q]?) → va_S A0 H0 H1 locs1 → W p l e R s m args below meth c H1 locs1 (cells + mc) (slots + ms) Q (F0 m (pc + 5) ls (.long r :: rest))) : W p l e R s m args below meth c H locs cells slots Q (F0 m pc ls st0) := by
  intro T hT X
  rcases hr T hT X with ⟨v, st₀, t, T', L, h0, X', hL, e1, e2, ⟨⟨r, u, hv, hp, hb⟩, hF⟩, st⟩ | ⟨q, st₀, t, T', L, E, ce, h0, X', hL, e1, e2, ⟨u, hp, hb, hF⟩, hce, hcv, hcl, st⟩
  · cases hv
    obtain ⟨k1, k2, k3⟩ := vx_keep h0 e1 hS hA hf hL hF
    obtain ⟨t2, a1, b1⟩ := kk r u t T'.heap (locs ++ L) e1.symm (by rw [← e2]; exact X'.warmed.alike) hp hb k1 k2 k3 T' rfl X'
    exact ⟨t2, st t2 a1, b1⟩
  · obtain ⟨k1, k2, k3⟩ := vx_keep h0 e1 hS hAX hf hL hF
    obtain ⟨t2, a1, b1⟩ := kx E ce q u t T'.heap (locs ++ L) e1.symm (by rw [← e2]; exact X'.warmed.alike) hp hb k1 k2 k3 (by rw [e1]; exact hce) hcv hcl T' rfl X'
    exact ⟨t2, st.trans a1, b1⟩
theorem vx_callFf {S SX : Type} {post : UInt32 → S → Prop} {px : SX → Prop} {B : S → State → Prop} {BX : String → SX → State → Prop} {AX : Nat → Prop} (hr : vx_Run5 p l e R s m args below meth c H locs cells slots mc ms (F0 m pc ls st0) rest (va_Qf post B A1 a) (vx_X px BX AX) free) (hS : va_S A0 H0 H locs) (hA : ∀ q, q < H.size → A1 q → A0 q) (hf : ∀ q, free q → A0 q) (hAX : ∀ q, q < H.size → AX q → A0 q)
    (kx : ∀ (E : String) (ce : Cell) (q9 : Addr) (u : SX) (t : State) (H1 : Heap) (locs1 : List Loc), t.heap = H1 → s.vm.Alike t.vm → px u → BX E u t → H.size ≤ H1.size → (∀ q : Nat, q < H.size → ¬ AX q → H1[q]? = H[q]?) → va_S A0 H0 H1 locs1 → H1[q9]? = some ce → ce.vm = .none → s.vm.findClass E = some ce.cls → vx_W p l e R s m args below meth c H1 locs1 (cells + mc) (slots + ms) Q (F0 m pc ls rest) q9)
    (kk : ∀ (r : UInt32) (u : S) (t : State) (H1 : Heap) (locs1 : List Loc), t.heap = H1 → s.vm.Alike t.vm → post r u → B u t → H.size ≤ H1.size → (∀ q : Nat, q < H.size → ¬ A1 q → H1[q]? = H[q]?) → va_S A0 H0 H1 locs1 → W p l e R s m args below meth c H1 locs1 (cells + mc) (slots + ms) Q (F0 m (pc + 5) ls (.float r :: rest))) : W p l e R s m args below meth c H locs cells slots Q (F0 m pc ls st0) := by
  intro T hT X
  rcases hr T hT X with ⟨v, st₀, t, T', L, h0, X', hL, e1, e2, ⟨⟨r, u, hv, hp, hb⟩, hF⟩, st⟩ | ⟨q, st₀, t, T', L, E, ce, h0, X', hL, e1, e2, ⟨u, hp, hb, hF⟩, hce, hcv, hcl, st⟩
  · cases hv
    obtain ⟨k1, k2, k3⟩ := vx_keep h0 e1 hS hA hf hL hF
    obtain ⟨t2, a1, b1⟩ := kk r u t T'.heap (locs ++ L) e1.symm (by rw [← e2]; exact X'.warmed.alike) hp hb k1 k2 k3 T' rfl X'
    exact ⟨t2, st t2 a1, b1⟩
  · obtain ⟨k1, k2, k3⟩ := vx_keep h0 e1 hS hAX hf hL hF
    obtain ⟨t2, a1, b1⟩ := kx E ce q u t T'.heap (locs ++ L) e1.symm (by rw [← e2]; exact X'.warmed.alike) hp hb k1 k2 k3 (by rw [e1]; exact hce) hcv hcl T' rfl X'
    exact ⟨t2, st.trans a1, b1⟩
theorem vx_callFd {S SX : Type} {post : UInt64 → S → Prop} {px : SX → Prop} {B : S → State → Prop} {BX : String → SX → State → Prop} {AX : Nat → Prop} (hr : vx_Run5 p l e R s m args below meth c H locs cells slots mc ms (F0 m pc ls st0) rest (va_Qd post B A1 a) (vx_X px BX AX) free) (hS : va_S A0 H0 H locs) (hA : ∀ q, q < H.size → A1 q → A0 q) (hf : ∀ q, free q → A0 q) (hAX : ∀ q, q < H.size → AX q → A0 q)
    (kx : ∀ (E : String) (ce : Cell) (q9 : Addr) (u : SX) (t : State) (H1 : Heap) (locs1 : List Loc), t.heap = H1 → s.vm.Alike t.vm → px u → BX E u t → H.size ≤ H1.size → (∀ q : Nat, q < H.size → ¬ AX q → H1[q]? = H[q]?) → va_S A0 H0 H1 locs1 → H1[q9]? = some ce → ce.vm = .none → s.vm.findClass E = some ce.cls → vx_W p l e R s m args below meth c H1 locs1 (cells + mc) (slots + ms) Q (F0 m pc ls rest) q9)
    (kk : ∀ (r : UInt64) (u : S) (t : State) (H1 : Heap) (locs1 : List Loc), t.heap = H1 → s.vm.Alike t.vm → post r u → B u t → H.size ≤ H1.size → (∀ q : Nat, q < H.size → ¬ A1 q → H1[q]? = H[q]?) → va_S A0 H0 H1 locs1 → W p l e R s m args below meth c H1 locs1 (cells + mc) (slots + ms) Q (F0 m (pc + 5) ls (.double r :: rest))) : W p l e R s m args below meth c H locs cells slots Q (F0 m pc ls st0) := by
  intro T hT X
  rcases hr T hT X with ⟨v, st₀, t, T', L, h0, X', hL, e1, e2, ⟨⟨r, u, hv, hp, hb⟩, hF⟩, st⟩ | ⟨q, st₀, t, T', L, E, ce, h0, X', hL, e1, e2, ⟨u, hp, hb, hF⟩, hce, hcv, hcl, st⟩
  · cases hv
    obtain ⟨k1, k2, k3⟩ := vx_keep h0 e1 hS hA hf hL hF
    obtain ⟨t2, a1, b1⟩ := kk r u t T'.heap (locs ++ L) e1.symm (by rw [← e2]; exact X'.warmed.alike) hp hb k1 k2 k3 T' rfl X'
    exact ⟨t2, st t2 a1, b1⟩
  · obtain ⟨k1, k2, k3⟩ := vx_keep h0 e1 hS hAX hf hL hF
    obtain ⟨t2, a1, b1⟩ := kx E ce q u t T'.heap (locs ++ L) e1.symm (by rw [← e2]; exact X'.warmed.alike) hp hb k1 k2 k3 (by rw [e1]; exact hce) hcv hcl T' rfl X'
    exact ⟨t2, st.trans a1, b1⟩
end
/-! ===== END ===== -/
/-! ===== BEGIN by an interface, a method with a table of its own that may throw (follows va_callIFW, va_runFW) ===== -/
section
variable {p : Program} {l : Launch} {e : Env} {R : Room} {s : State} {m : MethodId} {args : Array Value} {below : List Frame} {meth : Method} {c : Code} {H : Heap} {locs : List Loc} {cells slots : Nat}
theorem vx_callIFW {T : State} (X : Stand p l e R s m args below meth c T locs cells slots) (hexec : p.tables.exec = Jvm.exec) {own C : String} {index count : Nat} {x y : MethodName} {bytes : ByteArray} {maxL : Nat} {ret : Option FieldType} {hh : List (Nat × Nat × Nat × Nat)}
    (hown : s.vm.findClass own = some m.cls) (hlink : (Cond.methodLink own index x).before args s = true) (hdecl : (Cond.declares x).before args s = true) (hface : (Cond.interfaceMethod x.cls x.cls x.name x.desc).before args s = true)
    (hsel : (Cond.selects C x y).before args s = true) (hinst : (Cond.instanceMethod y).before args s = true) (hpub : (Cond.publicMethod y).before args s = true) (hunh : (Cond.unhidden C x.name x.desc).before args s = true)
    (hcast : (Cond.castable C x.cls).before args s = true) (hcode : (Cond.codeWith y bytes maxL ret hh).before args s = true) (hx : x.cls ≠ "java/lang/invoke/MethodHandle" ∧ x.cls ≠ "java/lang/invoke/VarHandle")
    {W : Nat} {Pre : Pt → Array Value → Prop} {Post : Pt → Array Value → Option Value → Pt → Prop} {PostX : Pt → Array Value → Addr → Pt → Prop} (hK : vx_Back l R p e below s args y 5 W Pre Post PostX)
    {b : Addr} {cellB : Cell} {kB : Class} (hcell : T.heap[b]? = some cellB) (hobj : cellB.vm.isStatics = false) (hcls : s.vm.findClass C = some cellB.cls) (hkB : s.vm.classes[cellB.cls]? = some kB)
    {g : JFrame} (hg : g.method = m) (hsize : g.locals.size = c.maxLocals) {argsL rest : List Value} (hlen : ∀ sig, parseMethodDescriptor x.desc = some sig → argsL.length = sig.parameters.length)
    (hstack : g.stack = argsL.reverse ++ .ref b :: rest) (hW : 2 * g.monitorRoom + (rest.map fun v => v.category).sum ≤ W) (hdg : decode c.code g.pc = .ok (.invokeinterface index count, 5))
    (hpre : ∀ vm₁, s.WarmedH vm₁ → Pre ⟨T.setVm vm₁, locs, cells, slots⟩ (Value.ref b :: argsL).toArray) :
    (∃ (v : Option Value) (vm₁ : Vm) (B : Pt), s.WarmedH vm₁ ∧ Stand p l e R s m args below meth c B.U B.locs B.cells B.slots ∧ Post ⟨T.setVm vm₁, locs, cells, slots⟩ (Value.ref b :: argsL).toArray v B ∧
      ∀ target, Steps p.tables e below (B.U.setTop { g with pc := g.pc + 5, stack := v.toList ++ rest }) target → Steps p.tables e below (T.setTop g) target) ∨
    (∃ (q : Addr) (vm₁ : Vm) (B : Pt), s.WarmedH vm₁ ∧ Stand p l e R s m args below meth c B.U B.locs B.cells B.slots ∧ PostX ⟨T.setVm vm₁, locs, cells, slots⟩ (Value.ref b :: argsL).toArray q B ∧
      Steps p.tables e below (T.setTop g) ((B.U.setTop { g with stack := rest }).pushFrame (.throwing q))) := by
  obtain ⟨r0, r, hn, hrm, hstR, hsigR⟩ := Cond.declares_spec hdecl
  obtain ⟨cL, kL, r1, hcL, hkL, hiL, hfoundL, hn1⟩ := Cond.interfaceMethod_spec hface
  cases hn.symm.trans hn1
  have hr0cls : r0.cls = cL := Option.some.inj ((findClass_of_methodNamed hn).symm.trans hcL)
  obtain ⟨hnameR, hdescR⟩ := name_of_methodNamed hn hrm
  obtain ⟨mk, methM, hnamed, hmethM, -, habM⟩ := Cond.instanceMethod_spec hinst
  obtain ⟨c2, r2, m2, q1, q2, q3, q4, -⟩ := Cond.selects_spec hsel
  cases hcls.symm.trans q1
  cases hfoundL.symm.trans q2
  cases hnamed.symm.trans q3
  have hselP : selectMethod e.platform s.vm cellB.cls r0 = .method mk := by rw [Launch.admits_selectMethod X.admits]; exact q4
  have hpubM : hasFlag methM.accessFlags Acc.public_ = true := Cond.publicMethod_spec hnamed hmethM hpub
  have hway : ((cellB.cls :: s.vm.superclasses cellB.cls).any fun k => (declaredIn s.vm r.name r.desc k).any fun (_, z) => z.isPrivate || z.isStatic) = false := by
    rw [hnameR, hdescR]; exact Cond.unhidden_spec hcls hunh
  obtain ⟨c3, t3, w1, w2, w3⟩ := Cond.castable_spec hcast
  cases hcls.symm.trans w1
  cases hcL.symm.trans w2
  obtain ⟨vm₁, X₁, hstep₁⟩ := X.invokeinterface hexec hown hlink hn hrm hstR (by rw [hr0cls]; exact hkL) hiL hx (a := b) (cell := cellB) (kcell := kB) hcell
    (fun z h => by rw [h] at hobj; cases hobj) hkB (by rw [hr0cls]; exact w3) hselP hmethM hway hpubM habM (g := g) hg (argsL := argsL) (rest := rest) (hlen _ hsigR) hstack hdg
  rcases hK m meth c ⟨T.setVm vm₁, locs, cells, slots⟩ { g with stack := rest } (.invokeinterface index count) mk (Value.ref b :: argsL).toArray X₁ hg hsize hdg hW (X₁.named hnamed) (hpre vm₁ X₁.warmed) with ⟨v, B, X', hpost, hsteps⟩ | ⟨q, B, X', hpost, hsteps⟩
  · exact Or.inl ⟨v, vm₁, B, X₁.warmed, X', hpost, fun target h => hstep₁ _ fun acts => by rw [doInvoke_state]; exact hsteps.trans h⟩
  · exact Or.inr ⟨q, vm₁, B, X₁.warmed, X', hpost, hstep₁ _ fun acts => by rw [doInvoke_state]; exact hsteps⟩
theorem vx_runFW {x y : MethodName} {bytes cc : ByteArray} {maxL nL mc ms n index count : Nat} {ret : Option FieldType} {hh : List (Nat × Nat × Nat × Nat)} {ws : List Cond} {rm : Room} {Pc : Array Value → State → Prop} {Qc : Array Value → State → Outcome → State → Prop} {XC : String → State → State → Prop} {free : Addr → Prop} {Ts : List Cond} {own C : String} {cC : ClassId} {b : Addr} {As rest : List Value} {g : JFrame}
    (hat : ClassAt s C cC) (S : CallFix p m c cc nL s args Ts own) (hM : vx_Met l y ws rm Pc Qc XC mc ms free) (cw : va_CIW R s args own C index x y bytes maxL ret hh ws rm mc ms n) (hp : PreV s H C b Pc As)
    (hg : g.method = m) (hn : As.length = n) (hsize : g.locals.size = nL) (hstack : g.stack = As.reverse ++ .ref b :: rest) (hW : 2 * g.monitorRoom + (rest.map fun v => v.category).sum ≤ 8) (hdg : decode cc g.pc = .ok (.invokeinterface index count, 5)) (hf : cells + mc ≤ R.cells ∧ slots + ms ≤ R.slots) :
    vx_Run5 p l e R s m args below meth c H locs cells slots mc ms g rest (Qc (Value.ref b :: As).toArray) XC free := by
  obtain ⟨hrc, hrs, hfr, hlo, hws, hcw⟩ := cw.back
  have hini := cw.init
  have hK : vx_Back l R p e below s args y 5 8 (PreOf R mc ms Pc) (PostOf Qc mc ms free) (vx_Post XC mc ms free) := vx_backW (hh := hh) (bytes := bytes) (maxL := maxL) (ret := ret) hM hp.1 hrc hrs hfr hlo hws hcw (fun a' U hW => word_at hW (Or.inl (by first | rfl | simp [Cond.onTables, Cond.keeps, Cond.steady])) hini)
  obtain ⟨hx, hb, hml, ho, -⟩ := S
  obtain ⟨-, ⟨cellB, hcB, hoB, hclB⟩, hPc⟩ := hp
  obtain ⟨hfc, kB, hkB, -⟩ := hat
  cases hfc.symm.trans hclB
  intro T hT X
  rcases vx_callIFW X hx (C := C) (hh := hh) (bytes := bytes) (maxL := maxL) (ret := ret) ho cw.link cw.decl cw.face cw.sel cw.inst cw.pub cw.unh cw.cast cw.code cw.notMH hK (by rw [hT]; exact hcB) hoB hclB hkB hg (hsize.trans hml.symm) (argsL := As) (rest := rest) (fun sig h => hn.trans (cw.len sig h)) hstack hW (by rw [hb]; exact hdg)
    (fun vm₁ hW₁ => ⟨hf.1, hf.2, hPc (T.setVm vm₁) hT hW₁⟩) with ⟨v, vm₁, ⟨U', l2, c2, s2⟩, hW₁, X', ⟨g', mk, t, L, e1, e2, hq, h1, hL, h2, h3⟩, st⟩ | ⟨q, vm₁, ⟨U', l2, c2, s2⟩, hW₁, X', ⟨g', mk, t, L, E, ce, e1, e2, hq, hce, hcv, hcl, h1, hL, h2, h3⟩, st⟩
  · dsimp only [Pt.U, Pt.locs, Pt.cells, Pt.slots] at X' e1 e2 h1 h2 h3 st
    subst h1; subst h2; subst h3
    exact Or.inl ⟨v, (T.setVm vm₁).calling g' mk (Value.ref b :: As).toArray, t, U', L, hT, X', hL, e1, e2, hq, st⟩
  · dsimp only [Pt.U, Pt.locs, Pt.cells, Pt.slots] at X' e1 e2 h1 h2 h3 st hcl
    subst h1; subst h2; subst h3
    exact Or.inr ⟨q, (T.setVm vm₁).calling g' mk (Value.ref b :: As).toArray, t, U', L, E, ce, hT, X', hL, e1, e2, hq, hce, hcv, vx_cls hW₁ hcl, st⟩
end
/-! ===== END ===== -/
/-! ===== BEGIN .. of methods that hand back an object of the pool ===== -/
section
variable {p : Program} {l : Launch} {e : Env} {R : Room} {s : State} {m : MethodId} {args : Array Value} {below : List Frame} {meth : Method} {c : Code} {H : Heap} {locs : List Loc} {cells slots : Nat} {Q : State → Prop}
variable {mc ms : Nat} {free : Addr → Prop} {A0 A1 : Nat → Prop} {H0 : Heap} {a : Array Value} {pc : Nat} {ls : Array Slot} {st0 rest : List Value}
theorem vx_callq {S SX : Type} {post : Option Nat → S → Prop} {px : SX → Prop} {B : S → State → Prop} {BX : String → SX → State → Prop} {AX : Nat → Prop} (hr : vx_Run p l e R s m args below meth c H locs cells slots mc ms (F0 m pc ls st0) rest (va_Qq post B A1 a) (vx_X px BX AX) free) (hS : va_S A0 H0 H locs) (hA : ∀ q, q < H.size → A1 q → A0 q) (hf : ∀ q, free q → A0 q) (hAX : ∀ q, q < H.size → AX q → A0 q)
    (kx : ∀ (E : String) (ce : Cell) (q9 : Addr) (u : SX) (t : State) (H1 : Heap) (locs1 : List Loc), t.heap = H1 → s.vm.Alike t.vm → px u → BX E u t → H.size ≤ H1.size → (∀ q : Nat, q < H.size → ¬ AX q → H1[q]? = H[q]?) → va_S A0 H0 H1 locs1 → H1[q9]? = some ce → ce.vm = .none → s.vm.findClass E = some ce.cls → vx_W p l e R s m args below meth c H1 locs1 (cells + mc) (slots + ms) Q (F0 m pc ls rest) q9)
    (kk : ∀ (r : Option Nat) (u : S) (t : State) (H1 : Heap) (locs1 : List Loc), t.heap = H1 → s.vm.Alike t.vm → post r u → B u t → H.size ≤ H1.size → (∀ q : Nat, q < H.size → ¬ A1 q → H1[q]? = H[q]?) → va_S A0 H0 H1 locs1 → W p l e R s m args below meth c H1 locs1 (cells + mc) (slots + ms) Q (F0 m (pc + 3) ls (va_rf r :: rest))) : W p l e R s m args below meth c H locs cells slots Q (F0 m pc ls st0) := by
  intro T hT X
  rcases hr T hT X with ⟨v, st₀, t, T', L, h0, X', hL, e1, e2, ⟨⟨r, u, hv, hp, hb⟩, hF⟩, st⟩ | ⟨q, st₀, t, T', L, E, ce, h0, X', hL, e1, e2, ⟨u, hp, hb, hF⟩, hce, hcv, hcl, st⟩
  · cases hv
    obtain ⟨k1, k2, k3⟩ := vx_keep h0 e1 hS hA hf hL hF
    obtain ⟨t2, a1, b1⟩ := kk r u t T'.heap (locs ++ L) e1.symm (by rw [← e2]; exact X'.warmed.alike) hp hb k1 k2 k3 T' rfl X'
    exact ⟨t2, st t2 a1, b1⟩
  · obtain ⟨k1, k2, k3⟩ := vx_keep h0 e1 hS hAX hf hL hF
    obtain ⟨t2, a1, b1⟩ := kx E ce q u t T'.heap (locs ++ L) e1.symm (by rw [← e2]; exact X'.warmed.alike) hp hb k1 k2 k3 (by rw [e1]; exact hce) hcv hcl T' rfl X'
    exact ⟨t2, st.trans a1, b1⟩
end
/-! ===== END ===== -/
/-! ===== BEGIN .. a constant ===== -/
section
variable {p : Program} {l : Launch} {e : Env} {R : Room} {s : State} {m : MethodId} {args : Array Value} {below : List Frame} {meth : Method} {c : Code} {H : Heap} {locs : List Loc} {cells slots : Nat} {Q : State → Prop}
variable {mc ms : Nat} {free : Addr → Prop} {A0 A1 : Nat → Prop} {H0 : Heap} {a : Array Value} {pc : Nat} {ls : Array Slot} {st0 rest : List Value}
theorem vx_calle {ad : Nat → Nat} {S SX : Type} {post : Option Nat → S → Prop} {px : SX → Prop} {B : S → State → Prop} {BX : String → SX → State → Prop} {AX : Nat → Prop} (hr : vx_Run p l e R s m args below meth c H locs cells slots mc ms (F0 m pc ls st0) rest (va_Qe ad post B A1 a) (vx_X px BX AX) free) (hS : va_S A0 H0 H locs) (hA : ∀ q, q < H.size → A1 q → A0 q) (hf : ∀ q, free q → A0 q) (hAX : ∀ q, q < H.size → AX q → A0 q)
    (kx : ∀ (E : String) (ce : Cell) (q9 : Addr) (u : SX) (t : State) (H1 : Heap) (locs1 : List Loc), t.heap = H1 → s.vm.Alike t.vm → px u → BX E u t → H.size ≤ H1.size → (∀ q : Nat, q < H.size → ¬ AX q → H1[q]? = H[q]?) → va_S A0 H0 H1 locs1 → H1[q9]? = some ce → ce.vm = .none → s.vm.findClass E = some ce.cls → vx_W p l e R s m args below meth c H1 locs1 (cells + mc) (slots + ms) Q (F0 m pc ls rest) q9)
    (kk : ∀ (r : Option Nat) (u : S) (t : State) (H1 : Heap) (locs1 : List Loc), t.heap = H1 → s.vm.Alike t.vm → post r u → B u t → H.size ≤ H1.size → (∀ q : Nat, q < H.size → ¬ A1 q → H1[q]? = H[q]?) → va_S A0 H0 H1 locs1 → W p l e R s m args below meth c H1 locs1 (cells + mc) (slots + ms) Q (F0 m (pc + 3) ls (va_re ad r :: rest))) : W p l e R s m args below meth c H locs cells slots Q (F0 m pc ls st0) := by
  intro T hT X
  rcases hr T hT X with ⟨v, st₀, t, T', L, h0, X', hL, e1, e2, ⟨⟨r, u, hv, hp, hb⟩, hF⟩, st⟩ | ⟨q, st₀, t, T', L, E, ce, h0, X', hL, e1, e2, ⟨u, hp, hb, hF⟩, hce, hcv, hcl, st⟩
  · cases hv
    obtain ⟨k1, k2, k3⟩ := vx_keep h0 e1 hS hA hf hL hF
    obtain ⟨t2, a1, b1⟩ := kk r u t T'.heap (locs ++ L) e1.symm (by rw [← e2]; exact X'.warmed.alike) hp hb k1 k2 k3 T' rfl X'
    exact ⟨t2, st t2 a1, b1⟩
  · obtain ⟨k1, k2, k3⟩ := vx_keep h0 e1 hS hAX hf hL hF
    obtain ⟨t2, a1, b1⟩ := kx E ce q u t T'.heap (locs ++ L) e1.symm (by rw [← e2]; exact X'.warmed.alike) hp hb k1 k2 k3 (by rw [e1]; exact hce) hcv hcl T' rfl X'
    exact ⟨t2, st.trans a1, b1⟩
end
/-! ===== END ===== -/
/-! ===== BEGIN .. by an interface, an object ===== -/
section
variable {p : Program} {l : Launch} {e : Env} {R : Room} {s : State} {m : MethodId} {args : Array Value} {below : List Frame} {meth : Method} {c : Code} {H : Heap} {locs : List Loc} {cells slots : Nat} {Q : State → Prop}
variable {mc ms : Nat} {free : Addr → Prop} {A0 A1 : Nat → Prop} {H0 : Heap} {a : Array Value} {pc : Nat} {ls : Array Slot} {st0 rest : List Value}
theorem vx_callFq {S SX : Type} {post : Option Nat → S → Prop} {px : SX → Prop} {B : S → State → Prop} {BX : String → SX → State → Prop} {AX : Nat → Prop} (hr : vx_Run5 p l e R s m args below meth c H locs cells slots mc ms (F0 m pc ls st0) rest (va_Qq post B A1 a) (vx_X px BX AX) free) (hS : va_S A0 H0 H locs) (hA : ∀ q, q < H.size → A1 q → A0 q) (hf : ∀ q, free q → A0 q) (hAX : ∀ q, q < H.size → AX q → A0 q)
    (kx : ∀ (E : String) (ce : Cell) (q9 : Addr) (u : SX) (t : State) (H1 : Heap) (locs1 : List Loc), t.heap = H1 → s.vm.Alike t.vm → px u → BX E u t → H.size ≤ H1.size → (∀ q : Nat, q < H.size → ¬ AX q → H1[q]? = H[q]?) → va_S A0 H0 H1 locs1 → H1[q9]? = some ce → ce.vm = .none → s.vm.findClass E = some ce.cls → vx_W p l e R s m args below meth c H1 locs1 (cells + mc) (slots + ms) Q (F0 m pc ls rest) q9)
    (kk : ∀ (r : Option Nat) (u : S) (t : State) (H1 : Heap) (locs1 : List Loc), t.heap = H1 → s.vm.Alike t.vm → post r u → B u t → H.size ≤ H1.size → (∀ q : Nat, q < H.size → ¬ A1 q → H1[q]? = H[q]?) → va_S A0 H0 H1 locs1 → W p l e R s m args below meth c H1 locs1 (cells + mc) (slots + ms) Q (F0 m (pc + 5) ls (va_rf r :: rest))) : W p l e R s m args below meth c H locs cells slots Q (F0 m pc ls st0) := by
  intro T hT X
  rcases hr T hT X with ⟨v, st₀, t, T', L, h0, X', hL, e1, e2, ⟨⟨r, u, hv, hp, hb⟩, hF⟩, st⟩ | ⟨q, st₀, t, T', L, E, ce, h0, X', hL, e1, e2, ⟨u, hp, hb, hF⟩, hce, hcv, hcl, st⟩
  · cases hv
    obtain ⟨k1, k2, k3⟩ := vx_keep h0 e1 hS hA hf hL hF
    obtain ⟨t2, a1, b1⟩ := kk r u t T'.heap (locs ++ L) e1.symm (by rw [← e2]; exact X'.warmed.alike) hp hb k1 k2 k3 T' rfl X'
    exact ⟨t2, st t2 a1, b1⟩
  · obtain ⟨k1, k2, k3⟩ := vx_keep h0 e1 hS hAX hf hL hF
    obtain ⟨t2, a1, b1⟩ := kx E ce q u t T'.heap (locs ++ L) e1.symm (by rw [← e2]; exact X'.warmed.alike) hp hb k1 k2 k3 (by rw [e1]; exact hce) hcv hcl T' rfl X'
    exact ⟨t2, st.trans a1, b1⟩
end
/-! ===== END ===== -/
/-! ===== BEGIN .. by an interface, a constant ===== -/
section
variable {p : Program} {l : Launch} {e : Env} {R : Room} {s : State} {m : MethodId} {args : Array Value} {below : List Frame} {meth : Method} {c : Code} {H : Heap} {locs : List Loc} {cells slots : Nat} {Q : State → Prop}
variable {mc ms : Nat} {free : Addr → Prop} {A0 A1 : Nat → Prop} {H0 : Heap} {a : Array Value} {pc : Nat} {ls : Array Slot} {st0 rest : List Value}
theorem vx_callFe {ad : Nat → Nat} {S SX : Type} {post : Option Nat → S → Prop} {px : SX → Prop} {B : S → State → Prop} {BX : String → SX → State → Prop} {AX : Nat → Prop} (hr : vx_Run5 p l e R s m args below meth c H locs cells slots mc ms (F0 m pc ls st0) rest (va_Qe ad post B A1 a) (vx_X px BX AX) free) (hS : va_S A0 H0 H locs) (hA : ∀ q, q < H.size → A1 q → A0 q) (hf : ∀ q, free q → A0 q) (hAX : ∀ q, q < H.size → AX q → A0 q)
    (kx : ∀ (E : String) (ce : Cell) (q9 : Addr) (u : SX) (t : State) (H1 : Heap) (locs1 : List Loc), t.heap = H1 → s.vm.Alike t.vm → px u → BX E u t → H.size ≤ H1.size → (∀ q : Nat, q < H.size → ¬ AX q → H1[q]? = H[q]?) → va_S A0 H0 H1 locs1 → H1[q9]? = some ce → ce.vm = .none → s.vm.findClass E = some ce.cls → vx_W p l e R s m args below meth c H1 locs1 (cells + mc) (slots + ms) Q (F0 m pc ls rest) q9)
    (kk : ∀ (r : Option Nat) (u : S) (t : State) (H1 : Heap) (locs1 : List Loc), t.heap = H1 → s.vm.Alike t.vm → post r u → B u t → H.size ≤ H1.size → (∀ q : Nat, q < H.size → ¬ A1 q → H1[q]? = H[q]?) → va_S A0 H0 H1 locs1 → W p l e R s m args below meth c H1 locs1 (cells + mc) (slots + ms) Q (F0 m (pc + 5) ls (va_re ad r :: rest))) : W p l e R s m args below meth c H locs cells slots Q (F0 m pc ls st0) := by
  intro T hT X
  rcases hr T hT X with ⟨v, st₀, t, T', L, h0, X', hL, e1, e2, ⟨⟨r, u, hv, hp, hb⟩, hF⟩, st⟩ | ⟨q, st₀, t, T', L, E, ce, h0, X', hL, e1, e2, ⟨u, hp, hb, hF⟩, hce, hcv, hcl, st⟩
  · cases hv
    obtain ⟨k1, k2, k3⟩ := vx_keep h0 e1 hS hA hf hL hF
    obtain ⟨t2, a1, b1⟩ := kk r u t T'.heap (locs ++ L) e1.symm (by rw [← e2]; exact X'.warmed.alike) hp hb k1 k2 k3 T' rfl X'
    exact ⟨t2, st t2 a1, b1⟩
  · obtain ⟨k1, k2, k3⟩ := vx_keep h0 e1 hS hAX hf hL hF
    obtain ⟨t2, a1, b1⟩ := kx E ce q u t T'.heap (locs ++ L) e1.symm (by rw [← e2]; exact X'.warmed.alike) hp hb k1 k2 k3 (by rw [e1]; exact hce) hcv hcl T' rfl X'
    exact ⟨t2, st.trans a1, b1⟩
end
/-! ===== END ===== -/
/-! ===== BEGIN what the machine throws by itself: null at a field, at athrow ===== -/
section VXM2
variable {p : Program} {l : Launch} {e : Env} {R : Room} {s : State} {m : MethodId} {args : Array Value} {below : List Frame} {meth : Method} {c : Code} {H : Heap} {locs : List Loc} {cells slots : Nat}
variable {Q : State → Prop} {cc : ByteArray} {pc : Nat} {ls : Array Slot} {rest : List Value}
theorem vx_getfN {D cl tys} {own ref C : String} {T : u_T} {N ci index : Nat} {Ts : List Cond} (hexec : p.tables.exec = Jvm.exec) (hb : c.code = cc) (hts : ∀ w ∈ Ts, w.before args s = true) (hin : ∀ w ∈ u_ws C T N, w ∈ Ts) (hown : s.vm.findClass own = some m.cls) (hK : va_K D cl tys s) (hc : cl[ci]? = some (C, T, N)) (k : Nat) (hk : k < N) (hlink : (Cond.fieldLink own index ref (T k).2.1 (T k).2.2.1).before args s = true) (hsame : ∀ x, s.fieldFound? (T k).1 (T k).2.1 (T k).2.2.1 = some x → s.fieldFound? ref (T k).2.1 (T k).2.2.1 = some x) (hdg : decode cc pc = .ok (.getfield index, 3)) (kk : vx_NoteN p l e R s m args below meth c H locs cells slots Q (F0 m pc ls rest)) : W p l e R s m args below meth c H locs cells slots Q (F0 m pc ls (.null :: rest)) := by
  obtain ⟨hS, hfc, kC, hkC, -⟩ := hK.1 ci _ hc
  obtain ⟨cf, kf, fi, f, hi, -⟩ := hS k hk
  intro U hU X
  obtain ⟨vm', X1, st1⟩ := X.getfieldNull hexec hown hlink (hsame _ hi) (u_facts hfc hkC (u_lays hts hin hk) hi).1 (g := F0 m pc ls (.null :: rest)) rfl (rest := rest) rfl (by rw [hb]; exact hdg)
  obtain ⟨t, st, q⟩ := kk (U.setVm vm') hU X1
  exact ⟨t, st1 t st, q⟩
theorem vx_getfNN {D cl tys} {own ref C host : String} {T : u_T} {N ci index : Nat} {Ts : List Cond} (hexec : p.tables.exec = Jvm.exec) (hb : c.code = cc) (hts : ∀ w ∈ Ts, w.before args s = true) (hin : ∀ w ∈ u_ws C T N, w ∈ Ts) (hown : s.vm.findClass own = some m.cls) (hK : va_K D cl tys s) (hc : cl[ci]? = some (C, T, N)) (k : Nat) (hk : k < N) (hlink : (Cond.fieldLinkNest own index ref (T k).2.1 (T k).2.2.1 host).before args s = true) (hsame : ∀ x, s.fieldFound? (T k).1 (T k).2.1 (T k).2.2.1 = some x → s.fieldFound? ref (T k).2.1 (T k).2.2.1 = some x) (hdg : decode cc pc = .ok (.getfield index, 3)) (kk : vx_NoteN p l e R s m args below meth c H locs cells slots Q (F0 m pc ls rest)) : W p l e R s m args below meth c H locs cells slots Q (F0 m pc ls (.null :: rest)) := by
  obtain ⟨hS, hfc, kC, hkC, -⟩ := hK.1 ci _ hc
  obtain ⟨cf, kf, fi, f, hi, -⟩ := hS k hk
  intro U hU X
  obtain ⟨vm', X1, st1⟩ := X.getfieldNullNest hexec hown hlink (hsame _ hi) (u_facts hfc hkC (u_lays hts hin hk) hi).1 (g := F0 m pc ls (.null :: rest)) rfl (rest := rest) rfl (by rw [hb]; exact hdg)
  obtain ⟨t, st, q⟩ := kk (U.setVm vm') hU X1
  exact ⟨t, st1 t st, q⟩
theorem vx_putfN {D cl tys} {own ref C : String} {T : u_T} {N ci index : Nat} {Ts : List Cond} (hexec : p.tables.exec = Jvm.exec) (hb : c.code = cc) (hts : ∀ w ∈ Ts, w.before args s = true) (hin : ∀ w ∈ u_ws C T N, w ∈ Ts) (hown : s.vm.findClass own = some m.cls) (hK : va_K D cl tys s) (hc : cl[ci]? = some (C, T, N)) (k : Nat) (hk : k < N) (hlink : (Cond.fieldLink own index ref (T k).2.1 (T k).2.2.1).before args s = true) (hsame : ∀ x, s.fieldFound? (T k).1 (T k).2.1 (T k).2.2.1 = some x → s.fieldFound? ref (T k).2.1 (T k).2.2.1 = some x) (hfin : (T k).2.2.2 = false) {v : Value} (hdg : decode cc pc = .ok (.putfield index, 3)) (kk : vx_NoteN p l e R s m args below meth c H locs cells slots Q (F0 m pc ls rest)) : W p l e R s m args below meth c H locs cells slots Q (F0 m pc ls (v :: .null :: rest)) := by
  obtain ⟨hS, hfc, kC, hkC, -⟩ := hK.1 ci _ hc
  obtain ⟨cf, kf, fi, f, hi, -⟩ := hS k hk
  have hlay := hts _ (hin _ (u_in_lay hk))
  unfold u_lay at hlay
  rw [if_neg (by rw [hfin]; decide)] at hlay
  obtain ⟨c9, k9, cf9, kf9, fi9, f9, -, -, hi9, hst9, hnf9, -⟩ := Cond.lays_spec hlay
  cases hi.symm.trans hi9
  intro U hU X
  obtain ⟨vm', X1, st1⟩ := X.putfieldNull hexec hown hlink (hsame _ hi) hst9 hnf9 (g := F0 m pc ls (v :: .null :: rest)) rfl (v := v) (rest := rest) rfl (by rw [hb]; exact hdg)
  obtain ⟨t, st, q⟩ := kk (U.setVm vm') hU X1
  exact ⟨t, st1 t st, q⟩
theorem vx_putfNN {D cl tys} {own ref C host : String} {T : u_T} {N ci index : Nat} {Ts : List Cond} (hexec : p.tables.exec = Jvm.exec) (hb : c.code = cc) (hts : ∀ w ∈ Ts, w.before args s = true) (hin : ∀ w ∈ u_ws C T N, w ∈ Ts) (hown : s.vm.findClass own = some m.cls) (hK : va_K D cl tys s) (hc : cl[ci]? = some (C, T, N)) (k : Nat) (hk : k < N) (hlink : (Cond.fieldLinkNest own index ref (T k).2.1 (T k).2.2.1 host).before args s = true) (hsame : ∀ x, s.fieldFound? (T k).1 (T k).2.1 (T k).2.2.1 = some x → s.fieldFound? ref (T k).2.1 (T k).2.2.1 = some x) (hfin : (T k).2.2.2 = false) {v : Value} (hdg : decode cc pc = .ok (.putfield index, 3)) (kk : vx_NoteN p l e R s m args below meth c H locs cells slots Q (F0 m pc ls rest)) : W p l e R s m args below meth c H locs cells slots Q (F0 m pc ls (v :: .null :: rest)) := by
  obtain ⟨hS, hfc, kC, hkC, -⟩ := hK.1 ci _ hc
  obtain ⟨cf, kf, fi, f, hi, -⟩ := hS k hk
  have hlay := hts _ (hin _ (u_in_lay hk))
  unfold u_lay at hlay
  rw [if_neg (by rw [hfin]; decide)] at hlay
  obtain ⟨c9, k9, cf9, kf9, fi9, f9, -, -, hi9, hst9, hnf9, -⟩ := Cond.lays_spec hlay
  cases hi.symm.trans hi9
  intro U hU X
  obtain ⟨vm', X1, st1⟩ := X.putfieldNullNest hexec hown hlink (hsame _ hi) hst9 hnf9 (g := F0 m pc ls (v :: .null :: rest)) rfl (v := v) (rest := rest) rfl (by rw [hb]; exact hdg)
  obtain ⟨t, st, q⟩ := kk (U.setVm vm') hU X1
  exact ⟨t, st1 t st, q⟩
theorem vx_athrowN (hexec : p.tables.exec = Jvm.exec) (hb : c.code = cc) (hdg : decode cc pc = .ok (.athrow, 1)) (k : vx_NoteN p l e R s m args below meth c H locs cells slots Q (F0 m pc ls rest)) : W p l e R s m args below meth c H locs cells slots Q (F0 m pc ls (.null :: rest)) := by
  intro T hT X
  obtain ⟨t, st, q⟩ := k T hT X
  exact ⟨t, X.athrowNull hexec (g := F0 m pc ls (.null :: rest)) rfl (rest := rest) rfl (by rw [hb]; exact hdg) t st, q⟩
end VXM2
/-! ===== END ===== -/
end
section
/-! THE PURE MACHINE: the code of the claim's methods, run over plain lists; what the machine does is tied to it once (part 02) -/
/-- a cell: an array (its type's number, its length, what it holds) or an object (its class's number, its fields in the tables' order) -/
abbrev P_E : Type := (Nat × vp_A) ⊕ (Nat × List Value)
/-- cells by their numbers; how many cells and slots were made so far -/
abbrev P_H : Type := List P_E × Nat × Nat
/-- an instruction, the pc behind it, two numbers of its own, the locals that are dropped behind it and at its target -/
abbrev P_I : Type := Instr × Nat × Int × Nat × List Nat × List Nat
/-- a method: how many locals; what it returns; its code; its handlers: from, to, the thrown one's number, the pc behind the handler's store, the local that is stored -/
abbrev P_M : Type := Nat × Option FieldType × (Nat → Option P_I) × List (Nat × Nat × Nat × Nat × Nat)
/-- what a call comes to: a value or nothing; or the number of what it throws -/
abbrev P_R : Type := Option Value ⊕ Nat
/-- methods by number; what a call site chooses for a class -/
abbrev P_G : Type := (Nat → Option P_M) × (Nat → Nat → Option Nat)
/-- a place inside a method: pc, locals, stack, heap -/
abbrev P_S : Type := Nat × List Value × List Value × P_H
/-- a local that nothing is known of -/
abbrev P_un : Value := .retAddr 0
def P_pre (L : List Value) (i : Nat) : List Value := match i with
  | 0 => L
  | j + 1 => match L[j]? with
    | some (.long _) => L.set j P_un
    | some (.double _) => L.set j P_un
    | _ => L
def P_st1 (L : List Value) (i : Nat) (v : Value) : List Value := (P_pre L i).set i v
def P_st2 (L : List Value) (i : Nat) (v : Value) : List Value := ((P_pre L i).set i v).set (i + 1) P_un
def P_kill (L : List Value) : List Nat → List Value
  | [] => L
  | k :: ks => P_kill (L.set k P_un) ks
def P_ldi (L : List Value) (k : Nat) (st : List Value) : Option (List Value × List Value) := match L[k]? with
  | some (.int x) => some (L, .int x :: st)
  | _ => none
def P_ldl (L : List Value) (k : Nat) (st : List Value) : Option (List Value × List Value) := match L[k]? with
  | some (.long x) => some (L, .long x :: st)
  | _ => none
def P_ldd (L : List Value) (k : Nat) (st : List Value) : Option (List Value × List Value) := match L[k]? with
  | some (.double x) => some (L, .double x :: st)
  | _ => none
def P_lda (L : List Value) (k : Nat) (st : List Value) : Option (List Value × List Value) := match L[k]? with
  | some (.ref x) => some (L, .ref x :: st)
  | some .null => some (L, .null :: st)
  | _ => none
def P_sti (L : List Value) (k : Nat) (st : List Value) : Option (List Value × List Value) := match st with
  | .int x :: r => if k < L.length then some (P_st1 L k (.int x), r) else none
  | _ => none
def P_sta (L : List Value) (k : Nat) (st : List Value) : Option (List Value × List Value) := match st with
  | .ref x :: r => if k < L.length then some (P_st1 L k (.ref x), r) else none
  | .null :: r => if k < L.length then some (P_st1 L k .null, r) else none
  | _ => none
def P_stl (L : List Value) (k : Nat) (st : List Value) : Option (List Value × List Value) := match st with
  | .long x :: r => if k + 1 < L.length then some (P_st2 L k (.long x), r) else none
  | _ => none
def P_std (L : List Value) (k : Nat) (st : List Value) : Option (List Value × List Value) := match st with
  | .double x :: r => if k + 1 < L.length then some (P_st2 L k (.double x), r) else none
  | _ => none
def P_ii (f : Int32 → Int32 → Int32) (L st : List Value) : Option (List Value × List Value) := match st with
  | .int y :: .int x :: r => some (L, .int (f x y) :: r)
  | _ => none
def P_ll (f : Int64 → Int64 → Int64) (L st : List Value) : Option (List Value × List Value) := match st with
  | .long y :: .long x :: r => some (L, .long (f x y) :: r)
  | _ => none
/-- division and remainder: not by 0 -/
def P_id (f : Int32 → Int32 → Int32) (L st : List Value) : Option (List Value × List Value) := match st with
  | .int y :: .int x :: r => if y = 0 then none else some (L, .int (f x y) :: r)
  | _ => none
def P_ld (f : Int64 → Int64 → Int64) (L st : List Value) : Option (List Value × List Value) := match st with
  | .long y :: .long x :: r => if y = 0 then none else some (L, .long (f x y) :: r)
  | _ => none
/-- on doubles: not to a NaN -/
def P_dd (f : UInt64 → UInt64 → UInt64) (L st : List Value) : Option (List Value × List Value) := match st with
  | .double y :: .double x :: r => if f x y &&& 0x7fffffffffffffff ≤ 0x7ff0000000000000 then some (L, .double (f x y) :: r) else none
  | _ => none
def P_c1 (v : Value) : Bool := match v with
  | .long _ => false
  | .double _ => false
  | _ => true
def P_dup (L st : List Value) : Option (List Value × List Value) := match st with
  | a :: r => if P_c1 a = true then some (L, a :: a :: r) else none
  | _ => none
def P_pop (L st : List Value) : Option (List Value × List Value) := match st with
  | a :: r => if P_c1 a = true then some (L, r) else none
  | _ => none
def P_dupx1 (L st : List Value) : Option (List Value × List Value) := match st with
  | a :: b :: r => if P_c1 a = true then if P_c1 b = true then some (L, a :: b :: a :: r) else none else none
  | _ => none
def P_dupx2 (L st : List Value) : Option (List Value × List Value) := match st with
  | a :: b :: d :: r => if P_c1 a = true then if P_c1 b = true then if P_c1 d = true then some (L, a :: b :: d :: a :: r) else none else none else none
  | _ => none
def P_dup2 (L st : List Value) : Option (List Value × List Value) := match st with
  | a :: b :: r => if P_c1 a = true then if P_c1 b = true then some (L, a :: b :: a :: b :: r) else none else none
  | _ => none
def P_u (f : Value → Option Value) (L st : List Value) : Option (List Value × List Value) := match st with
  | a :: r => match f a with
    | some b => some (L, b :: r)
    | none => none
  | _ => none
def P_lcmp (L st : List Value) : Option (List Value × List Value) := match st with
  | .long y :: .long x :: r => some (L, .int (lg_cmp x y) :: r)
  | _ => none
def P_dcmp (op : CmpOp) (L st : List Value) : Option (List Value × List Value) := match st with
  | .double y :: .double x :: r => some (L, .int (Op.cmpValue (FP.dcmp x y) op) :: r)
  | _ => none
def P_ineg (v : Value) : Option Value := match v with
  | .int x => some (.int (-x))
  | _ => none
def P_i2l (v : Value) : Option Value := match v with
  | .int x => some (.long x.toInt64)
  | _ => none
def P_i2d (v : Value) : Option Value := match v with
  | .int x => some (.double (FP.i2d x))
  | _ => none
def P_d2i (v : Value) : Option Value := match v with
  | .double x => some (.int (FP.d2i x))
  | _ => none
def P_iinc (L : List Value) (k : Nat) (n : Int) (st : List Value) : Option (List Value × List Value) := match L[k]? with
  | some (.int x) => some (P_st1 L k (.int (x + Int32.ofInt n)), st)
  | _ => none
/-- what moves between locals and stack alone -/
def P_op (i : Instr) (r1 : Int) (r2 : Nat) (L st : List Value) : Option (List Value × List Value) := match i with
  | .aconst_null => some (L, .null :: st)
  | .aload k => P_lda L k st
  | .aload_n k => P_lda L k.val st
  | .iload k => P_ldi L k st
  | .iload_n k => P_ldi L k.val st
  | .lload k => P_ldl L k st
  | .lload_n k => P_ldl L k.val st
  | .dload k => P_ldd L k st
  | .dload_n k => P_ldd L k.val st
  | .astore k => P_sta L k st
  | .astore_n k => P_sta L k.val st
  | .istore k => P_sti L k st
  | .istore_n k => P_sti L k.val st
  | .lstore k => P_stl L k st
  | .lstore_n k => P_stl L k.val st
  | .dstore k => P_std L k st
  | .dstore_n k => P_std L k.val st
  | .iinc k n => P_iinc L k n st
  | .iconst n => some (L, .int (Int32.ofInt n) :: st)
  | .bipush n => some (L, .int (Int8.ofInt n).toInt32 :: st)
  | .sipush n => some (L, .int (Int16.ofInt n).toInt32 :: st)
  | .lconst n => some (L, .long (Int64.ofNat n.val) :: st)
  | .dconst n => if n.val = 0 then some (L, .double (0 : UInt64) :: st) else none
  | .ldc _ => some (L, .int (Int32.ofInt r1) :: st)
  | .ldc_w _ => some (L, .int (Int32.ofInt r1) :: st)
  | .ldc2_w _ => if r2 = 0 then some (L, .long (Int64.ofInt r1) :: st) else some (L, .double (UInt64.ofNat r1.toNat) :: st)
  | .dup => P_dup L st
  | .dup_x1 => P_dupx1 L st
  | .dup_x2 => P_dupx2 L st
  | .dup2 => P_dup2 L st
  | .pop => P_pop L st
  | .iadd => P_ii (fun x y => x + y) L st
  | .isub => P_ii (fun x y => x - y) L st
  | .imul => P_ii (fun x y => x * y) L st
  | .iand => P_ii (fun x y => x &&& y) L st
  | .ior => P_ii (fun x y => x ||| y) L st
  | .ishr => P_ii (fun x y => x >>> (y &&& 31)) L st
  | .idiv => P_id (fun x y => x / y) L st
  | .irem => P_id (fun x y => x - x / y * y) L st
  | .ladd => P_ll (fun x y => x + y) L st
  | .lmul => P_ll (fun x y => x * y) L st
  | .ldiv => P_ld (fun x y => x / y) L st
  | .lcmp => P_lcmp L st
  | .dcmp op => P_dcmp op L st
  | .ddiv => P_dd FP.ddiv L st
  | .dmul => P_dd FP.dmul L st
  | .dadd => P_dd FP.dadd L st
  | .ineg => P_u P_ineg L st
  | .i2l => P_u P_i2l L st
  | .i2d => P_u P_i2d L st
  | .d2i => P_u P_d2i L st
  | _ => none
def P_cc (c : ClassFile.Cond) (x y : Int32) : Bool := match c with
  | .eq => decide (x = y)
  | .ne => decide (¬ x = y)
  | .lt => decide (x < y)
  | .ge => decide (y ≤ x)
  | .gt => decide (y < x)
  | .le => decide (x ≤ y)
/-- whether it jumps -/
def P_br (i : Instr) (st : List Value) : Option (Bool × List Value) := match i with
  | .goto _ => some (true, st)
  | .ifCond c _ => match st with
    | .int x :: r => some (P_cc c x 0, r)
    | _ => none
  | .if_icmp c _ => match st with
    | .int y :: .int x :: r => some (P_cc c x y, r)
    | _ => none
  | .ifnull _ => match st with
    | .ref _ :: r => some (false, r)
    | .null :: r => some (true, r)
    | _ => none
  | .ifnonnull _ => match st with
    | .ref _ :: r => some (true, r)
    | .null :: r => some (false, r)
    | _ => none
  | _ => none
/-- a switch's target -/
def P_sw (i : Instr) (pc : Nat) (st : List Value) : Option (Nat × List Value) := match i with
  | .tableswitch dflt lo hi offs => match st with
    | .int x :: r => if x.toInt < lo ∨ hi < x.toInt then some (((pc : Int) + dflt).toNat, r) else match offs[(x.toInt - lo).toNat]? with
      | some off => some (((pc : Int) + off).toNat, r)
      | none => none
    | _ => none
  | _ => none
/-- an index of a row of n -/
def P_ix (i : Int32) (n : Nat) : Option Nat := if i < 0 ∨ n ≤ i.toNatClampNeg then none else some i.toNatClampNeg
def P_set (h : P_H) (a : Nat) (e : P_E) : P_H := (h.1.set a e, h.2)
def P_add (h : P_H) (e : P_E) (n : Nat) : P_H := (h.1 ++ [e], h.2.1 + 1, h.2.2 + n)
/-- a row of nothing, by its type's number: 0 int, 1 long, 2 double, 3 boolean, from 4 on references -/
def P_row (k n : Nat) : P_E := .inl (k, n, match k with
  | 0 => .inl (fun _ => 0)
  | 1 => .inr (.inl (fun _ => 0))
  | 2 => .inr (.inr (.inr (.inl (fun _ => 0))))
  | 3 => .inl (fun _ => 0)
  | _ => .inr (.inr (.inr (.inr (fun _ => none)))))
def P_new (h : P_H) (k : Nat) (n : Int32) (st : List Value) : Option (List Value × P_H) :=
  if n < 0 ∨ 65536 < n.toNatClampNeg then none else some (.ref h.1.length :: st, P_add h (P_row k n.toNatClampNeg) n.toNatClampNeg)
/-- what fields an object has at first, by its number; which kinds of object a place of a field's name may meet; the fields' types -/
abbrev P_Z : Type := (Nat → List Value) × (Nat → Nat → Bool) × (Nat → Nat → FieldType)
/-- a type that holds what is put as it is -/
def P_fits (t : FieldType) (v : Value) : Bool := match t with
  | .byte => false
  | .char => false
  | .short => false
  | .float => false
  | t => fits t v
/-- what reads and writes cells; nro: the cells below it are never written -/
def P_hp (Z : P_Z) (nro : Nat) (i : Instr) (r1 : Int) (r2 : Nat) (st : List Value) (h : P_H) : Option (List Value × P_H) := match i with
  | .getfield _ => match st with
    | .ref a :: r => match h.1[a]? with
      | some (.inr (ci, fs)) => if nro ≤ a ∧ Z.2.1 r1.toNat ci = true then match fs[r2]? with
        | some v => some (v :: r, h)
        | none => none
        else none
      | _ => none
    | _ => none
  | .putfield _ => match st with
    | v :: .ref a :: r => match h.1[a]? with
      | some (.inr (ci, fs)) => if nro ≤ a ∧ Z.2.1 r1.toNat ci = true ∧ P_fits (Z.2.2 ci r2) v = true ∧ r2 < fs.length then some (r, P_set h a (.inr (ci, fs.set r2 v))) else none
      | _ => none
    | _ => none
  | .iaload => match st with
    | .int j :: .ref a :: r => match h.1[a]? with
      | some (.inl (0, n, .inl f)) => (P_ix j n).bind fun k => some (.int (f k) :: r, h)
      | _ => none
    | _ => none
  | .iastore => match st with
    | .int x :: .int j :: .ref a :: r => match h.1[a]? with
      | some (.inl (0, n, .inl f)) => if nro ≤ a then (P_ix j n).bind fun k => some (r, P_set h a (.inl (0, n, .inl (upd f k x)))) else none
      | _ => none
    | _ => none
  | .baload => match st with
    | .int j :: .ref a :: r => match h.1[a]? with
      | some (.inl (3, n, .inl f)) => if nro ≤ a then (P_ix j n).bind fun k => some (.int (f k) :: r, h) else none
      | _ => none
    | _ => none
  | .bastore => match st with
    | .int x :: .int j :: .ref a :: r => match h.1[a]? with
      | some (.inl (3, n, .inl f)) => if nro ≤ a then (P_ix j n).bind fun k => some (r, P_set h a (.inl (3, n, .inl (upd f k (vp_nar .boolean x))))) else none
      | _ => none
    | _ => none
  | .laload => match st with
    | .int j :: .ref a :: r => match h.1[a]? with
      | some (.inl (1, n, .inr (.inl f))) => if nro ≤ a then (P_ix j n).bind fun k => some (.long (f k) :: r, h) else none
      | _ => none
    | _ => none
  | .lastore => match st with
    | .long x :: .int j :: .ref a :: r => match h.1[a]? with
      | some (.inl (1, n, .inr (.inl f))) => if nro ≤ a then (P_ix j n).bind fun k => some (r, P_set h a (.inl (1, n, .inr (.inl (vp_updL f k x))))) else none
      | _ => none
    | _ => none
  | .daload => match st with
    | .int j :: .ref a :: r => match h.1[a]? with
      | some (.inl (2, n, .inr (.inr (.inr (.inl f))))) => if nro ≤ a then (P_ix j n).bind fun k => some (.double (f k) :: r, h) else none
      | _ => none
    | _ => none
  | .dastore => match st with
    | .double x :: .int j :: .ref a :: r => match h.1[a]? with
      | some (.inl (2, n, .inr (.inr (.inr (.inl f))))) => if nro ≤ a then (P_ix j n).bind fun k => some (r, P_set h a (.inl (2, n, .inr (.inr (.inr (.inl (vf_upd f k x))))))) else none
      | _ => none
    | _ => none
  | .aaload => match st with
    | .int j :: .ref a :: r => match h.1[a]? with
      | some (.inl (ty, n, .inr (.inr (.inr (.inr f))))) => if nro ≤ a ∧ 4 ≤ ty then (P_ix j n).bind fun k => some (va_rf (f k) :: r, h) else none
      | _ => none
    | _ => none
  | .aastore => match st with
    | .ref x :: .int j :: .ref a :: r => match h.1[a]? with
      | some (.inl (ty, n, .inr (.inr (.inr (.inr f))))) => match h.1[x]? with
        | some (.inr (ci, _)) => if nro ≤ a ∧ nro ≤ x ∧ ty = 100 + ci then (P_ix j n).bind fun k => some (r, P_set h a (.inl (ty, n, .inr (.inr (.inr (.inr (va_up f k (some x)))))))) else none
        | _ => none
      | _ => none
    | _ => none
  | .arraylength => match st with
    | .ref a :: r => match h.1[a]? with
      | some (.inl (ty, n, f)) => if nro ≤ a ∨ ty = 0 then some (.int (Int32.ofNat n) :: r, h) else none
      | _ => none
    | _ => none
  | .newarray _ => match st with
    | .int n :: r => if r2 < 4 then P_new h r2 n r else none
    | _ => none
  | .anewarray _ => match st with
    | .int n :: r => if 100 ≤ r2 then P_new h r2 n r else none
    | _ => none
  | .new _ => if r2 < 1000 then some (.ref h.1.length :: st, P_add h (.inr (r2, Z.1 r2)) (Z.1 r2).length) else none
  | .getstatic _ => some (.ref r2 :: st, h)
  | _ => none
/-- how many words a stack is -/
def P_cs : List Value → Nat
  | [] => 0
  | .long _ :: r => P_cs r + 2
  | .double _ :: r => P_cs r + 2
  | _ :: r => P_cs r + 1
def P_args : List Value → List Value
  | [] => []
  | .long x :: as => .long x :: P_un :: P_args as
  | .double x :: as => .double x :: P_un :: P_args as
  | v :: as => v :: P_args as
def P_fit : Nat → List Value → List Value
  | 0, _ => []
  | n + 1, [] => P_un :: P_fit n []
  | n + 1, v :: vs => v :: P_fit n vs
/-- which method a call calls, and its arguments; the rest of the stack. r1: how many arguments without the receiver -/
def P_inv (V : Nat → Nat → Option Nat) (i : Instr) (r1 : Int) (r2 : Nat) (st : List Value) (h : P_H) : Option (Nat × List Value × List Value) := match i with
  | .invokestatic _ => if r1.toNat ≤ st.length ∧ r2 < 9000 then some (r2, (st.take r1.toNat).reverse, st.drop r1.toNat) else none
  | .invokespecial _ => if r2 < 9000 then match st.drop r1.toNat with
    | .ref a :: r => some (r2, .ref a :: (st.take r1.toNat).reverse, r)
    | _ => none
    else none
  | .invokevirtual _ => match st.drop r1.toNat with
    | .ref a :: r => match h.1[a]? with
      | some (.inr (ci, _)) => match V r2 ci with
        | some y => some (y, .ref a :: (st.take r1.toNat).reverse, r)
        | none => none
      | _ => none
    | _ => none
  | _ => none
/-- calls of what the tables hold no code of here: 9000 Object's constructor, 9001 max, 9002 min of two ints -/
def P_jdk (i : Instr) (r2 : Nat) (st : List Value) : Option (List Value) := match i with
  | .invokespecial _ => if r2 = 9000 then match st with
    | .ref _ :: r => if P_cs r ≤ 8 then some r else none
    | _ => none
    else none
  | .invokestatic _ => match st with
    | .int y :: .int x :: r => if P_cs r ≤ 8 then (if r2 = 9001 then some (.int (if x < y then y else x) :: r) else if r2 = 9002 then some (.int (if y < x then y else x) :: r) else none) else none
    | _ => none
  | _ => none
def P_ret (rt : Option FieldType) (i : Instr) (st : List Value) : Option (Option Value) := match i, rt with
  | .return_, none => match st with
    | [] => some none
    | _ => none
  | .ireturn, some t => match st with
    | [.int x] => if P_fits t (.int x) = true then some (some (.int x)) else none
    | _ => none
  | .lreturn, some .long => match st with
    | [.long x] => some (some (.long x))
    | _ => none
  | .dreturn, some .double => match st with
    | [.double x] => some (some (.double x))
    | _ => none
  | .areturn, some t => match st with
    | [.ref x] => if P_fits t (.ref x) = true then some (some (.ref x)) else none
    | [.null] => if P_fits t .null = true then some (some .null) else none
    | _ => none
  | _, _ => none
/-- new of what is thrown, up to its throw: its number -/
def P_thr (i : Instr) (r2 : Nat) (st : List Value) : Option Nat := match i with
  | .new _ => if 1000 ≤ r2 ∧ r2 < 1003 ∧ st.isEmpty = true then some (r2 - 1000) else none
  | _ => none
def P_find (E pc : Nat) : List (Nat × Nat × Nat × Nat × Nat) → Option (Nat × Nat)
  | [] => none
  | (f, t, x, p, k) :: hs => if f ≤ pc ∧ pc < t ∧ x = E then some (p, k) else P_find E pc hs
abbrev P_Y : Type := P_Z × Nat × P_G
/-- one instruction of a method; ex: what a call comes to -/
def P_do (Y : P_Y) (ex : Nat → Nat → List Value → P_H → Option (P_R × P_H)) (d : Nat) (rt : Option FieldType) (hs : List (Nat × Nat × Nat × Nat × Nat)) (pc : Nat) (L st : List Value) (h : P_H) (i : Instr) (nx : Nat) (r1 : Int) (r2 : Nat) (kN kT : List Nat) : Option (P_S ⊕ (P_R × P_H)) :=
  match P_op i r1 r2 L st with
  | some (L', st') => some (.inl (nx, P_kill L' kN, st', h))
  | none => match P_br i st with
    | some (true, st') => some (.inl (r2, P_kill L kT, st', h))
    | some (false, st') => some (.inl (nx, P_kill L kN, st', h))
    | none => match P_hp Y.1 Y.2.1 i r1 r2 st h with
      | some (st', h') => some (.inl (nx, P_kill L kN, st', h'))
      | none => match P_ret rt i st with
        | some v => some (.inr (.inl v, h))
        | none => match P_jdk i r2 st with
          | some st' => some (.inl (nx, P_kill L kN, st', h))
          | none => match P_sw i pc st with
            | some (t, st') => some (.inl (t, L, st', h))
            | none => match P_thr i r2 st with
              | some E => some (.inr (.inr E, (h.1, h.2.1 + 1, h.2.2 + 6)))
              | none => match P_inv Y.2.2.2 i r1 r2 st h with
                | some (y, as, r) => if 8 < P_cs r then none else match d with
                  | 0 => none
                  | d' + 1 => match ex d' y as h with
                    | some (.inl v, h') => some (.inl (nx, P_kill L kN, v.toList ++ r, h'))
                    | some (.inr E, h') => match P_find E pc hs with
                      | some (p, k) => if k < L.length then some (.inl (p, P_st1 L k P_un, [], h')) else none
                      | none => some (.inr (.inr E, h'))
                    | none => none
                | none => none
/-- a method from a place on, by fuel; d: how deep calls may still go; nothing calls 0, the law -/
def P_ex (Y : P_Y) : Nat → Nat → Nat → P_S → Option (P_R × P_H)
  | 0, _, _, _ => none
  | n + 1, d, y, (pc, L, st, h) => match Y.2.2.1 y with
    | none => none
    | some (_, rt, cd, hs) => match cd pc with
      | none => none
      | some (i, nx, r1, r2, kN, kT) => match P_do Y (fun d' y' as h' => if y' = 0 then none else match Y.2.2.1 y' with
          | none => none
          | some (mx', _) => if (P_args as).length ≤ mx' then P_ex Y n d' y' (0, P_fit mx' (P_args as), [], h') else none) d rt hs pc L st h i nx r1 r2 kN kT with
        | some (.inl s) => P_ex Y n d y s
        | some (.inr r) => some r
        | none => none
end
section
/-! THE TIE, 1: values, locals, stacks; what moves between locals and stack alone -/
/-- a pure value and the machine's; rho: where the cells lie -/
def P_v (ρ : List Nat) (v v' : Value) : Prop := match v with
  | .ref i => ∃ q, ρ[i]? = some q ∧ v' = .ref q
  | .retAddr _ => False
  | v => v' = v
def P_vs (ρ : List Nat) : List Value → List Value → Prop
  | [], [] => True
  | v :: vs, w :: ws => P_v ρ v w ∧ P_vs ρ vs ws
  | _, _ => False
def P_sub (ρ ρ' : List Nat) : Prop := ∀ (i q : Nat), ρ[i]? = some q → ρ'[i]? = some q
theorem P_v.mono {ρ ρ' : List Nat} (h : P_sub ρ ρ') {v v' : Value} (hv : P_v ρ v v') : P_v ρ' v v' := by
  cases v <;> simp only [P_v] at hv ⊢ <;> first | exact hv | (obtain ⟨q, h1, h2⟩ := hv; exact ⟨q, h _ _ h1, h2⟩)
theorem P_vs.mono {ρ ρ' : List Nat} (h : P_sub ρ ρ') : ∀ {vs ws : List Value}, P_vs ρ vs ws → P_vs ρ' vs ws
  | [], [], _ => trivial
  | _ :: _, _ :: _, hv => ⟨hv.1.mono h, P_vs.mono h hv.2⟩
  | [], _ :: _, hv => hv.elim
  | _ :: _, [], hv => hv.elim
theorem P_v.cat {ρ : List Nat} {v v' : Value} (hv : P_v ρ v v') : v'.category = v.category := by
  cases v <;> simp only [P_v] at hv <;> first | (subst hv; rfl) | (obtain ⟨q, -, rfl⟩ := hv; rfl) | exact hv.elim
theorem P_v.c1 {ρ : List Nat} {v v' : Value} (hv : P_v ρ v v') (h : P_c1 v = true) : v'.category = 1 := by
  rw [hv.cat]
  cases v <;> first | rfl | (simp [P_c1] at h)
/-- the locals -/
def P_L (ρ : List Nat) (L : List Value) (ls : Array Slot) (n : Nat) : Prop := L.length = n ∧ ∃ l : List (Nat × Value), lv_has ls n l ∧ ∀ (k : Nat) (v : Value), L[k]? = some v → v = P_un ∨ ∃ v', (k, v') ∈ l ∧ P_v ρ v v'
theorem P_L.mono {ρ ρ' : List Nat} (h : P_sub ρ ρ') {L : List Value} {ls : Array Slot} {n : Nat} (hL : P_L ρ L ls n) : P_L ρ' L ls n := by
  obtain ⟨h0, l, h1, h2⟩ := hL
  exact ⟨h0, l, h1, fun k v hk => (h2 k v hk).imp id fun ⟨v', a, b⟩ => ⟨v', a, b.mono h⟩⟩
theorem P_L.at {ρ : List Nat} {L : List Value} {ls : Array Slot} {n k : Nat} {v : Value} (hL : P_L ρ L ls n) (hk : L[k]? = some v) (hv : v ≠ P_un) : ∃ v', ls[k]? = some (.val v') ∧ P_v ρ v v' := by
  obtain ⟨-, l, h1, h2⟩ := hL
  obtain hq | ⟨v', a, b⟩ := h2 k v hk
  · exact absurd hq hv
  · exact ⟨v', h1.2.2 _ a, b⟩
theorem P_L.drop {ρ : List Nat} {L : List Value} {ls : Array Slot} {n : Nat} (hL : P_L ρ L ls n) (i : Nat) : P_L ρ (L.set i P_un) ls n := by
  obtain ⟨h0, l, h1, h2⟩ := hL
  refine ⟨by simpa using h0, l, h1, fun k v hk => ?_⟩
  rw [List.getElem?_set] at hk
  by_cases e : i = k
  · subst e
    rw [if_pos rfl] at hk
    split at hk
    · exact Or.inl (Option.some.inj hk).symm
    · cases hk
  · rw [if_neg e] at hk
    exact h2 k v hk
theorem P_L.kill {ρ : List Nat} {ls : Array Slot} {n : Nat} (ks : List Nat) : ∀ {L : List Value}, P_L ρ L ls n → P_L ρ (P_kill L ks) ls n := by
  induction ks with
  | nil => exact fun h => h
  | cons k ks ih => exact fun h => ih (h.drop k)
theorem P_pre_len (L : List Value) (i : Nat) : (P_pre L i).length = L.length := by
  unfold P_pre
  split
  · rfl
  · split <;> simp
/-- what a store leaves alone -/
theorem P_pre_at {L : List Value} {i k : Nat} {v : Value} (h : (P_pre L i)[k]? = some v) : v = P_un ∨ (L[k]? = some v ∧ ¬ (k + 1 = i ∧ v.category = 2)) := by
  unfold P_pre at h
  split at h
  · exact Or.inr ⟨h, fun q => by omega⟩
  · next j =>
    by_cases e : j = k
    · subst e
      split at h
      · rw [List.getElem?_set] at h
        simp only [if_true] at h
        split at h
        · exact Or.inl (Option.some.inj h).symm
        · cases h
      · rw [List.getElem?_set] at h
        simp only [if_true] at h
        split at h
        · exact Or.inl (Option.some.inj h).symm
        · cases h
      · next h1 h2 =>
        refine Or.inr ⟨h, fun q => ?_⟩
        cases v <;> first | (exact absurd h (h1 _)) | (exact absurd h (h2 _)) | (simp [Value.category] at q)
    · have h3 : L[k]? = some v := by
        split at h
        · rwa [List.getElem?_set_ne e] at h
        · rwa [List.getElem?_set_ne e] at h
        · exact h
      exact Or.inr ⟨h3, fun q => e (by omega)⟩
/-- the machine's side of a store of one slot, and of two -/
theorem P_L.st1 {ρ : List Nat} {L : List Value} {ls : Array Slot} {n i : Nat} {v v' : Value} (hL : P_L ρ L ls n) (hv : P_v ρ v v') : ∃ l : List (Nat × Value), lv_has ls n l ∧ ∀ ls' : Array Slot, lv_has ls' n ((i, v') :: l.filter (fun q => !(q.1 == i) && !(q.1 + 1 == i && q.2.category == 2))) → P_L ρ (P_st1 L i v) ls' n := by
  obtain ⟨h0, l, h1, h2⟩ := hL
  refine ⟨l, h1, fun ls' h' => ⟨by simp [P_st1, P_pre_len, h0], _, h', fun k x hk => ?_⟩⟩
  unfold P_st1 at hk
  rw [List.getElem?_set] at hk
  by_cases e : i = k
  · subst e
    simp only [if_true] at hk
    split at hk
    · cases hk
      exact Or.inr ⟨v', List.mem_cons_self, hv⟩
    · cases hk
  · rw [if_neg e] at hk
    obtain hq | ⟨h3, h4⟩ := P_pre_at hk
    · exact Or.inl hq
    · obtain hq | ⟨w, a, b⟩ := h2 k x h3
      · exact Or.inl hq
      · refine Or.inr ⟨w, List.mem_cons_of_mem _ (List.mem_filter.mpr ⟨a, ?_⟩), b⟩
        have e' : ¬ k = i := fun q => e q.symm
        have hc := b.cat
        by_cases h5 : k + 1 = i
        · have h6 : ¬ w.category = 2 := fun q => h4 ⟨h5, by rw [← hc]; exact q⟩
          simp [e', h6]
        · simp [e', h5]
theorem P_L.st2 {ρ : List Nat} {L : List Value} {ls : Array Slot} {n i : Nat} {v v' : Value} (hL : P_L ρ L ls n) (hv : P_v ρ v v') : ∃ l : List (Nat × Value), lv_has ls n l ∧ ∀ ls' : Array Slot, lv_has ls' n ((i, v') :: l.filter (fun q => !(q.1 == i) && (!(q.1 == i + 1) && !(q.1 + 1 == i && q.2.category == 2)))) → P_L ρ (P_st2 L i v) ls' n := by
  obtain ⟨h0, l, h1, h2⟩ := hL
  refine ⟨l, h1, fun ls' h' => ⟨by simp [P_st2, P_pre_len, h0], _, h', fun k x hk => ?_⟩⟩
  unfold P_st2 at hk
  rw [List.getElem?_set] at hk
  by_cases e1 : i + 1 = k
  · subst e1
    simp only [if_true] at hk
    split at hk
    · exact Or.inl (Option.some.inj hk).symm
    · cases hk
  rw [if_neg e1, List.getElem?_set] at hk
  by_cases e : i = k
  · subst e
    simp only [if_true] at hk
    split at hk
    · cases hk
      exact Or.inr ⟨v', List.mem_cons_self, hv⟩
    · cases hk
  · rw [if_neg e] at hk
    obtain hq | ⟨h3, h4⟩ := P_pre_at hk
    · exact Or.inl hq
    · obtain hq | ⟨w, a, b⟩ := h2 k x h3
      · exact Or.inl hq
      · refine Or.inr ⟨w, List.mem_cons_of_mem _ (List.mem_filter.mpr ⟨a, ?_⟩), b⟩
        have e' : ¬ k = i := fun q => e q.symm
        have e1' : ¬ k = i + 1 := fun q => e1 q.symm
        have hc := b.cat
        by_cases h5 : k + 1 = i
        · have h6 : ¬ w.category = 2 := fun q => h4 ⟨h5, by rw [← hc]; exact q⟩
          simp [e', e1', h6]
        · simp [e', e1', h5]
end
section
/-! THE TIE, 2: an instruction between locals and stack; jumps -/
/-- how long an instruction is -/
def P_len (i : Instr) : Nat := match i with
  | .aload _ | .iload _ | .lload _ | .dload _ | .astore _ | .istore _ | .lstore _ | .dstore _ | .bipush _ | .ldc _ | .newarray _ => 2
  | .iinc _ _ | .sipush _ | .ldc_w _ | .ldc2_w _ | .goto _ | .ifCond _ _ | .if_icmp _ _ | .ifnull _ | .ifnonnull _ | .getfield _ | .putfield _ | .getstatic _ | .anewarray _ | .new _ | .invokestatic _ | .invokespecial _ | .invokevirtual _ => 3
  | _ => 1
/-- the constants that an instruction loads -/
def P_ldok (own : String) (i : Instr) (r1 : Int) (r2 : Nat) (args : Array Value) (s : State) : Prop := match i with
  | .ldc k => (Jvm.Cond.constant own k (Int32.ofInt r1)).before args s = true
  | .ldc_w k => (Jvm.Cond.constant own k (Int32.ofInt r1)).before args s = true
  | .ldc2_w k => if r2 = 0 then (Jvm.Cond.constantLong own k (Int64.ofInt r1)).before args s = true else (Jvm.Cond.constantDouble own k (UInt64.ofNat r1.toNat)).before args s = true
  | _ => True
section OP
variable {p : Program} {l : Launch} {e : Env} {R : Room} {s : State} {m : MethodId} {args : Array Value} {below : List Frame} {meth : Method} {c : Code} {H : Heap} {locs : List Loc} {cells slots : Nat} {Q : State → Prop} {cc : ByteArray} {pc nL : Nat} {ls : Array Slot} {rest : List Value} {ρ : List Nat} {L L1 st st1 st' : List Value}
theorem P_vs_cons {v : Value} (h : P_vs ρ (v :: st) st') : ∃ w ws, st' = w :: ws ∧ P_v ρ v w ∧ P_vs ρ st ws := by
  cases st' with
  | nil => exact h.elim
  | cons w ws => exact ⟨w, ws, rfl, h.1, h.2⟩
theorem P_vs_nil (h : P_vs ρ [] st') : st' = [] := by
  cases st' with
  | nil => rfl
  | cons w ws => exact h.elim
set_option maxHeartbeats 4000000 in
/-- an instruction between locals and stack -/
theorem P_op_ok (hx : p.tables.exec = Jvm.exec) (hb : c.code = cc) {own : String} (hown : s.vm.findClass own = some m.cls) {i : Instr} {r1 : Int} {r2 : Nat} (hdg : decode cc pc = .ok (i, P_len i)) (hld : P_ldok own i r1 r2 args s) (hL : P_L ρ L ls nL) (hst : P_vs ρ st st') (h : P_op i r1 r2 L st = some (L1, st1))
    (k : ∀ (ls' : Array Slot) (ws : List Value), P_L ρ L1 ls' nL → P_vs ρ st1 ws → W p l e R s m args below meth c H locs cells slots Q (F0 m (pc + P_len i) ls' ws)) : W p l e R s m args below meth c H locs cells slots Q (F0 m pc ls st') := by
  cases i with
  | aconst_null =>
    cases h
    exact lv_null hx hb hdg (k ls _ hL ⟨rfl, hst⟩)
  | aload i =>
    simp only [P_op, P_lda] at h
    split at h
    · next a ha =>
      cases h
      obtain ⟨v', h1, q, h2, rfl⟩ := hL.at ha (by simp [P_un])
      exact lv_aload hx hb hdg h1 (k ls _ hL ⟨⟨q, h2, rfl⟩, hst⟩)
    · next ha =>
      cases h
      obtain ⟨v', h1, h2⟩ := hL.at ha (by simp [P_un])
      cases h2
      exact lv_aloadN hx hb hdg h1 (k ls _ hL ⟨rfl, hst⟩)
    · cases h
  | aload_n i =>
    simp only [P_op, P_lda] at h
    split at h
    · next a ha =>
      cases h
      obtain ⟨v', h1, q, h2, rfl⟩ := hL.at ha (by simp [P_un])
      exact lv_aload_n hx hb hdg rfl h1 (k ls _ hL ⟨⟨q, h2, rfl⟩, hst⟩)
    · next ha =>
      cases h
      obtain ⟨v', h1, h2⟩ := hL.at ha (by simp [P_un])
      cases h2
      exact lv_aload_nN hx hb hdg rfl h1 (k ls _ hL ⟨rfl, hst⟩)
    · cases h
  | iload i =>
    simp only [P_op, P_ldi] at h
    split at h
    · next a ha =>
      cases h
      obtain ⟨v', h1, h2⟩ := hL.at ha (by simp [P_un])
      cases h2
      exact lv_iload hx hb hdg h1 (k ls _ hL ⟨rfl, hst⟩)
    · cases h
  | iload_n i =>
    simp only [P_op, P_ldi] at h
    split at h
    · next a ha =>
      cases h
      obtain ⟨v', h1, h2⟩ := hL.at ha (by simp [P_un])
      cases h2
      exact lv_iload_n hx hb hdg rfl h1 (k ls _ hL ⟨rfl, hst⟩)
    · cases h
  | lload i =>
    simp only [P_op, P_ldl] at h
    split at h
    · next a ha =>
      cases h
      obtain ⟨v', h1, h2⟩ := hL.at ha (by simp [P_un])
      cases h2
      exact lv_lload hx hb hdg h1 (k ls _ hL ⟨rfl, hst⟩)
    · cases h
  | lload_n i =>
    simp only [P_op, P_ldl] at h
    split at h
    · next a ha =>
      cases h
      obtain ⟨v', h1, h2⟩ := hL.at ha (by simp [P_un])
      cases h2
      exact lv_lload_n hx hb hdg rfl h1 (k ls _ hL ⟨rfl, hst⟩)
    · cases h
  | dload i =>
    simp only [P_op, P_ldd] at h
    split at h
    · next a ha =>
      cases h
      obtain ⟨v', h1, h2⟩ := hL.at ha (by simp [P_un])
      cases h2
      exact lv_dload hx hb hdg h1 (k ls _ hL ⟨rfl, hst⟩)
    · cases h
  | dload_n i =>
    simp only [P_op, P_ldd] at h
    split at h
    · next a ha =>
      cases h
      obtain ⟨v', h1, h2⟩ := hL.at ha (by simp [P_un])
      cases h2
      exact lv_dload_n hx hb hdg rfl h1 (k ls _ hL ⟨rfl, hst⟩)
    · cases h
  | astore i =>
    simp only [P_op, P_sta] at h
    split at h
    · split at h
      · next x r hlt =>
        cases h
        obtain ⟨w, ws, rfl, ⟨q, h2, rfl⟩, h3⟩ := P_vs_cons hst
        obtain ⟨l0, g1, g2⟩ := hL.st1 (i := i) (v := .ref x) ⟨q, h2, rfl⟩
        exact lv_astore hx hb hdg g1 (by rw [← hL.1]; exact hlt) rfl (fun ls' h' => k ls' _ (g2 ls' h') h3)
      · cases h
    · split at h
      · next r hlt =>
        cases h
        obtain ⟨w, ws, rfl, h2, h3⟩ := P_vs_cons hst
        cases h2
        obtain ⟨l0, g1, g2⟩ := hL.st1 (i := i) (v := .null) rfl
        exact lv_astoreN hx hb hdg g1 (by rw [← hL.1]; exact hlt) rfl (fun ls' h' => k ls' _ (g2 ls' h') h3)
      · cases h
    · cases h
  | astore_n i =>
    simp only [P_op, P_sta] at h
    split at h
    · split at h
      · next x r hlt =>
        cases h
        obtain ⟨w, ws, rfl, ⟨q, h2, rfl⟩, h3⟩ := P_vs_cons hst
        obtain ⟨l0, g1, g2⟩ := hL.st1 (i := i.val) (v := .ref x) ⟨q, h2, rfl⟩
        exact lv_astore_n hx hb hdg rfl g1 (by rw [← hL.1]; exact hlt) rfl (fun ls' h' => k ls' _ (g2 ls' h') h3)
      · cases h
    · split at h
      · next r hlt =>
        cases h
        obtain ⟨w, ws, rfl, h2, h3⟩ := P_vs_cons hst
        cases h2
        obtain ⟨l0, g1, g2⟩ := hL.st1 (i := i.val) (v := .null) rfl
        exact lv_astore_nN hx hb hdg rfl g1 (by rw [← hL.1]; exact hlt) rfl (fun ls' h' => k ls' _ (g2 ls' h') h3)
      · cases h
    · cases h
  | istore i =>
    simp only [P_op, P_sti] at h
    split at h
    · split at h
      · next x r hlt =>
        cases h
        obtain ⟨w, ws, rfl, h2, h3⟩ := P_vs_cons hst
        cases h2
        obtain ⟨l0, g1, g2⟩ := hL.st1 (i := i) (v := .int x) rfl
        exact lv_istore hx hb hdg g1 (by rw [← hL.1]; exact hlt) rfl (fun ls' h' => k ls' _ (g2 ls' h') h3)
      · cases h
    · cases h
  | istore_n i =>
    simp only [P_op, P_sti] at h
    split at h
    · split at h
      · next x r hlt =>
        cases h
        obtain ⟨w, ws, rfl, h2, h3⟩ := P_vs_cons hst
        cases h2
        obtain ⟨l0, g1, g2⟩ := hL.st1 (i := i.val) (v := .int x) rfl
        exact lv_istore_n hx hb hdg rfl g1 (by rw [← hL.1]; exact hlt) rfl (fun ls' h' => k ls' _ (g2 ls' h') h3)
      · cases h
    · cases h
  | lstore i =>
    simp only [P_op, P_stl] at h
    split at h
    · split at h
      · next x r hlt =>
        cases h
        obtain ⟨w, ws, rfl, h2, h3⟩ := P_vs_cons hst
        cases h2
        obtain ⟨l0, g1, g2⟩ := hL.st2 (i := i) (v := .long x) rfl
        exact lv_lstore hx hb hdg g1 (by rw [← hL.1]; exact hlt) rfl (fun ls' h' => k ls' _ (g2 ls' h') h3)
      · cases h
    · cases h
  | lstore_n i =>
    simp only [P_op, P_stl] at h
    split at h
    · split at h
      · next x r hlt =>
        cases h
        obtain ⟨w, ws, rfl, h2, h3⟩ := P_vs_cons hst
        cases h2
        obtain ⟨l0, g1, g2⟩ := hL.st2 (i := i.val) (v := .long x) rfl
        exact lv_lstore_n hx hb hdg rfl g1 (by rw [← hL.1]; exact hlt) rfl (fun ls' h' => k ls' _ (g2 ls' h') h3)
      · cases h
    · cases h
  | dstore i =>
    simp only [P_op, P_std] at h
    split at h
    · split at h
      · next x r hlt =>
        cases h
        obtain ⟨w, ws, rfl, h2, h3⟩ := P_vs_cons hst
        cases h2
        obtain ⟨l0, g1, g2⟩ := hL.st2 (i := i) (v := .double x) rfl
        exact lv_dstore hx hb hdg g1 (by rw [← hL.1]; exact hlt) rfl (fun ls' h' => k ls' _ (g2 ls' h') h3)
      · cases h
    · cases h
  | dstore_n i =>
    simp only [P_op, P_std] at h
    split at h
    · split at h
      · next x r hlt =>
        cases h
        obtain ⟨w, ws, rfl, h2, h3⟩ := P_vs_cons hst
        cases h2
        obtain ⟨l0, g1, g2⟩ := hL.st2 (i := i.val) (v := .double x) rfl
        exact lv_dstore_n hx hb hdg rfl g1 (by rw [← hL.1]; exact hlt) rfl (fun ls' h' => k ls' _ (g2 ls' h') h3)
      · cases h
    · cases h
  | iinc i n =>
    simp only [P_op, P_iinc] at h
    split at h
    · next x ha =>
      cases h
      obtain ⟨l0, g1, g2⟩ := hL.st1 (i := i) (v := .int (x + Int32.ofInt n)) rfl
      have hlt : i < nL := by rw [← hL.1]; exact (List.getElem?_eq_some_iff.mp ha).1
      obtain ⟨h0, l1, h1, h2⟩ := hL
      obtain hq | ⟨v', a, b⟩ := h2 i _ ha
      · exact absurd hq (by simp [P_un])
      · cases b
        obtain ⟨j, hj⟩ := List.getElem?_of_mem a
        have hs : lv_has ls nL ((i, .int x) :: l0) := ⟨g1.1, g1.2.1, fun q hq => by
          rcases List.mem_cons.mp hq with rfl | hq
          · exact h1.2.2 _ a
          · exact g1.2.2 q hq⟩
        refine lv_iinc (k := 0) hx hb hdg hs rfl rfl hlt rfl (fun ls' h' => k ls' _ (g2 ls' ?_) hst)
        refine ⟨h'.1, h'.2.1, fun q hq => h'.2.2 q ?_⟩
        rcases List.mem_cons.mp hq with rfl | hq
        · exact List.mem_cons_self
        · refine List.mem_cons_of_mem _ ?_
          rw [List.mem_filter] at hq ⊢
          exact ⟨List.mem_cons_of_mem _ hq.1, hq.2⟩
    · cases h
  | iconst n =>
    cases h
    exact lv_iconst hx hb hdg rfl (k ls _ hL ⟨rfl, hst⟩)
  | bipush n =>
    cases h
    exact lv_bipush hx hb hdg rfl (k ls _ hL ⟨rfl, hst⟩)
  | sipush n =>
    cases h
    exact lv_sipush hx hb hdg rfl (k ls _ hL ⟨rfl, hst⟩)
  | lconst n =>
    cases h
    exact lv_lconst hx hb hdg rfl (k ls _ hL ⟨rfl, hst⟩)
  | dconst n =>
    simp only [P_op] at h
    split at h
    · next hn =>
      cases h
      have hn' : n = 0 := Fin.ext hn
      subst hn'
      exact lv_dconst0 hx hb hdg (k ls _ hL ⟨rfl, hst⟩)
    · cases h
  | ldc i =>
    cases h
    exact lv_ldc hx hb hown hld hdg (k ls _ hL ⟨rfl, hst⟩)
  | ldc_w i =>
    cases h
    exact lv_ldcw hx hb hown hld hdg (k ls _ hL ⟨rfl, hst⟩)
  | ldc2_w i =>
    simp only [P_op] at h
    simp only [P_ldok] at hld
    split at h
    · next hr =>
      cases h
      rw [if_pos hr] at hld
      exact lv_ldc2 hx hb hown hld hdg (k ls _ hL ⟨rfl, hst⟩)
    · next hr =>
      cases h
      rw [if_neg hr] at hld
      exact lv_ldc2d hx hb hown hld hdg (k ls _ hL ⟨rfl, hst⟩)
  | dup =>
    simp only [P_op, P_dup] at h
    split at h
    · split at h
      · next a r ha =>
        cases h
        obtain ⟨w, ws, rfl, h2, h3⟩ := P_vs_cons hst
        exact lv_dup hx hb hdg (h2.c1 ha) (k ls _ hL ⟨h2, h2, h3⟩)
      · cases h
    · cases h
  | pop =>
    simp only [P_op, P_pop] at h
    split at h
    · split at h
      · next a r ha =>
        cases h
        obtain ⟨w, ws, rfl, h2, h3⟩ := P_vs_cons hst
        exact lv_pop hx hb hdg (h2.c1 ha) (k ls _ hL h3)
      · cases h
    · cases h
  | dup_x1 =>
    simp only [P_op, P_dupx1] at h
    split at h
    · split at h
      · split at h
        · next a b r ha hb2 =>
          cases h
          obtain ⟨w, ws, rfl, h2, h3⟩ := P_vs_cons hst
          obtain ⟨w2, ws2, rfl, h4, h5⟩ := P_vs_cons h3
          exact lv_dup_x1 hx hb hdg (h2.c1 ha) (h4.c1 hb2) (k ls _ hL ⟨h2, h4, h2, h5⟩)
        · cases h
      · cases h
    · cases h
  | dup_x2 =>
    simp only [P_op, P_dupx2] at h
    split at h
    · split at h
      · split at h
        · split at h
          · next a b d r ha hb2 hd =>
            cases h
            obtain ⟨w, ws, rfl, h2, h3⟩ := P_vs_cons hst
            obtain ⟨w2, ws2, rfl, h4, h5⟩ := P_vs_cons h3
            obtain ⟨w3, ws3, rfl, h6, h7⟩ := P_vs_cons h5
            exact lv_dup_x2 hx hb hdg (h2.c1 ha) (h4.c1 hb2) (h6.c1 hd) (k ls _ hL ⟨h2, h4, h6, h2, h7⟩)
          · cases h
        · cases h
      · cases h
    · cases h
  | dup2 =>
    simp only [P_op, P_dup2] at h
    split at h
    · split at h
      · split at h
        · next a b r ha hb2 =>
          cases h
          obtain ⟨w, ws, rfl, h2, h3⟩ := P_vs_cons hst
          obtain ⟨w2, ws2, rfl, h4, h5⟩ := P_vs_cons h3
          exact lv_dup2_11 hx hb hdg (h2.c1 ha) (h4.c1 hb2) (k ls _ hL ⟨h2, h4, h2, h4, h5⟩)
        · cases h
      · cases h
    · cases h
  | iadd =>
    simp only [P_op, P_ii] at h
    split at h
    · cases h
      obtain ⟨w, ws, rfl, h2, h3⟩ := P_vs_cons hst
      obtain ⟨w2, ws2, rfl, h4, h5⟩ := P_vs_cons h3
      cases h2; cases h4
      exact lv_iadd hx hb hdg (k ls _ hL ⟨rfl, h5⟩)
    · cases h
  | isub =>
    simp only [P_op, P_ii] at h
    split at h
    · cases h
      obtain ⟨w, ws, rfl, h2, h3⟩ := P_vs_cons hst
      obtain ⟨w2, ws2, rfl, h4, h5⟩ := P_vs_cons h3
      cases h2; cases h4
      exact lv_isub hx hb hdg (k ls _ hL ⟨rfl, h5⟩)
    · cases h
  | imul =>
    simp only [P_op, P_ii] at h
    split at h
    · cases h
      obtain ⟨w, ws, rfl, h2, h3⟩ := P_vs_cons hst
      obtain ⟨w2, ws2, rfl, h4, h5⟩ := P_vs_cons h3
      cases h2; cases h4
      exact lv_imul hx hb hdg (k ls _ hL ⟨rfl, h5⟩)
    · cases h
  | iand =>
    simp only [P_op, P_ii] at h
    split at h
    · cases h
      obtain ⟨w, ws, rfl, h2, h3⟩ := P_vs_cons hst
      obtain ⟨w2, ws2, rfl, h4, h5⟩ := P_vs_cons h3
      cases h2; cases h4
      exact lv_iand hx hb hdg (k ls _ hL ⟨rfl, h5⟩)
    · cases h
  | ior =>
    simp only [P_op, P_ii] at h
    split at h
    · cases h
      obtain ⟨w, ws, rfl, h2, h3⟩ := P_vs_cons hst
      obtain ⟨w2, ws2, rfl, h4, h5⟩ := P_vs_cons h3
      cases h2; cases h4
      exact lv_ior hx hb hdg (k ls _ hL ⟨rfl, h5⟩)
    · cases h
  | ishr =>
    simp only [P_op, P_ii] at h
    split at h
    · cases h
      obtain ⟨w, ws, rfl, h2, h3⟩ := P_vs_cons hst
      obtain ⟨w2, ws2, rfl, h4, h5⟩ := P_vs_cons h3
      cases h2; cases h4
      exact lv_ishr hx hb hdg (k ls _ hL ⟨rfl, h5⟩)
    · cases h
  | idiv =>
    simp only [P_op, P_id] at h
    split at h
    · split at h
      · cases h
      · next hne =>
        cases h
        obtain ⟨w, ws, rfl, h2, h3⟩ := P_vs_cons hst
        obtain ⟨w2, ws2, rfl, h4, h5⟩ := P_vs_cons h3
        cases h2; cases h4
        exact lv_idiv hx hb hdg hne (k ls _ hL ⟨rfl, h5⟩)
    · cases h
  | irem =>
    simp only [P_op, P_id] at h
    split at h
    · split at h
      · cases h
      · next hne =>
        cases h
        obtain ⟨w, ws, rfl, h2, h3⟩ := P_vs_cons hst
        obtain ⟨w2, ws2, rfl, h4, h5⟩ := P_vs_cons h3
        cases h2; cases h4
        exact lv_irem hx hb hdg hne (k ls _ hL ⟨rfl, h5⟩)
    · cases h
  | ladd =>
    simp only [P_op, P_ll] at h
    split at h
    · cases h
      obtain ⟨w, ws, rfl, h2, h3⟩ := P_vs_cons hst
      obtain ⟨w2, ws2, rfl, h4, h5⟩ := P_vs_cons h3
      cases h2; cases h4
      exact lv_ladd hx hb hdg (k ls _ hL ⟨rfl, h5⟩)
    · cases h
  | lmul =>
    simp only [P_op, P_ll] at h
    split at h
    · cases h
      obtain ⟨w, ws, rfl, h2, h3⟩ := P_vs_cons hst
      obtain ⟨w2, ws2, rfl, h4, h5⟩ := P_vs_cons h3
      cases h2; cases h4
      exact lv_lmul hx hb hdg (k ls _ hL ⟨rfl, h5⟩)
    · cases h
  | ldiv =>
    simp only [P_op, P_ld] at h
    split at h
    · split at h
      · cases h
      · next hne =>
        cases h
        obtain ⟨w, ws, rfl, h2, h3⟩ := P_vs_cons hst
        obtain ⟨w2, ws2, rfl, h4, h5⟩ := P_vs_cons h3
        cases h2; cases h4
        exact lv_ldiv hx hb hdg hne (k ls _ hL ⟨rfl, h5⟩)
    · cases h
  | lcmp =>
    simp only [P_op, P_lcmp] at h
    split at h
    · cases h
      obtain ⟨w, ws, rfl, h2, h3⟩ := P_vs_cons hst
      obtain ⟨w2, ws2, rfl, h4, h5⟩ := P_vs_cons h3
      cases h2; cases h4
      exact W.lcmp hx hb hdg (k ls _ hL ⟨rfl, h5⟩)
    · cases h
  | dcmp op =>
    simp only [P_op, P_dcmp] at h
    split at h
    · cases h
      obtain ⟨w, ws, rfl, h2, h3⟩ := P_vs_cons hst
      obtain ⟨w2, ws2, rfl, h4, h5⟩ := P_vs_cons h3
      cases h2; cases h4
      exact lv_dcmp hx hb hdg (k ls _ hL ⟨rfl, h5⟩)
    · cases h
  | ddiv =>
    simp only [P_op, P_dd] at h
    split at h
    · split at h
      · next hne =>
        cases h
        obtain ⟨w, ws, rfl, h2, h3⟩ := P_vs_cons hst
        obtain ⟨w2, ws2, rfl, h4, h5⟩ := P_vs_cons h3
        cases h2; cases h4
        exact lv_ddiv hx hb hdg hne (k ls _ hL ⟨rfl, h5⟩)
      · cases h
    · cases h
  | dmul =>
    simp only [P_op, P_dd] at h
    split at h
    · split at h
      · next hne =>
        cases h
        obtain ⟨w, ws, rfl, h2, h3⟩ := P_vs_cons hst
        obtain ⟨w2, ws2, rfl, h4, h5⟩ := P_vs_cons h3
        cases h2; cases h4
        exact lv_dmul hx hb hdg hne (k ls _ hL ⟨rfl, h5⟩)
      · cases h
    · cases h
  | dadd =>
    simp only [P_op, P_dd] at h
    split at h
    · split at h
      · next hne =>
        cases h
        obtain ⟨w, ws, rfl, h2, h3⟩ := P_vs_cons hst
        obtain ⟨w2, ws2, rfl, h4, h5⟩ := P_vs_cons h3
        cases h2; cases h4
        exact lv_dadd hx hb hdg hne (k ls _ hL ⟨rfl, h5⟩)
      · cases h
    · cases h
  | ineg =>
    simp only [P_op, P_u] at h
    split at h
    · next a r =>
      cases a <;> simp only [P_ineg] at h <;> first | (cases h; done) | skip
      cases h
      obtain ⟨w, ws, rfl, h2, h3⟩ := P_vs_cons hst
      cases h2
      exact lv_ineg hx hb hdg (k ls _ hL ⟨rfl, h3⟩)
    · cases h
  | i2l =>
    simp only [P_op, P_u] at h
    split at h
    · next a r =>
      cases a <;> simp only [P_i2l] at h <;> first | (cases h; done) | skip
      cases h
      obtain ⟨w, ws, rfl, h2, h3⟩ := P_vs_cons hst
      cases h2
      exact lv_i2l hx hb hdg rfl (k ls _ hL ⟨rfl, h3⟩)
    · cases h
  | i2d =>
    simp only [P_op, P_u] at h
    split at h
    · next a r =>
      cases a <;> simp only [P_i2d] at h <;> first | (cases h; done) | skip
      cases h
      obtain ⟨w, ws, rfl, h2, h3⟩ := P_vs_cons hst
      cases h2
      exact lv_i2d hx hb hdg (k ls _ hL ⟨rfl, h3⟩)
    · cases h
  | d2i =>
    simp only [P_op, P_u] at h
    split at h
    · next a r =>
      cases a <;> simp only [P_d2i] at h <;> first | (cases h; done) | skip
      cases h
      obtain ⟨w, ws, rfl, h2, h3⟩ := P_vs_cons hst
      cases h2
      exact lv_d2i hx hb hdg (k ls _ hL ⟨rfl, h3⟩)
    · cases h
  | _ => cases h
end OP
end
section
/-! THE TIE, 3: jumps -/
section BR
variable {p : Program} {l : Launch} {e : Env} {R : Room} {s : State} {m : MethodId} {args : Array Value} {below : List Frame} {meth : Method} {c : Code} {H : Heap} {locs : List Loc} {cells slots : Nat} {Q : State → Prop} {cc : ByteArray} {pc nL : Nat} {ls : Array Slot} {rest : List Value} {ρ : List Nat} {L L1 st st1 st' : List Value}
def P_off (i : Instr) : Option Int := match i with
  | .goto o => some o
  | .ifCond _ o => some o
  | .if_icmp _ o => some o
  | .ifnull o => some o
  | .ifnonnull o => some o
  | _ => none
set_option maxHeartbeats 4000000 in
theorem P_br_ok (hx : p.tables.exec = Jvm.exec) (hb : c.code = cc) {i : Instr} {tgt : Nat} {j : Bool} (hdg : decode cc pc = .ok (i, P_len i)) (ht : ∀ o, P_off i = some o → (pc : Int) + o = (tgt : Int)) (hst : P_vs ρ st st') (h : P_br i st = some (j, st1))
    (k : ∀ ws : List Value, P_vs ρ st1 ws → W p l e R s m args below meth c H locs cells slots Q (F0 m (if j = true then tgt else pc + P_len i) ls ws)) : W p l e R s m args below meth c H locs cells slots Q (F0 m pc ls st') := by
  cases i with
  | goto o =>
    cases h
    exact lv_goto hx hb hdg (ht o rfl) (k _ hst)
  | ifnull o =>
    simp only [P_br] at h
    split at h
    · cases h
      obtain ⟨w, ws, rfl, ⟨q, h2, rfl⟩, h3⟩ := P_vs_cons hst
      exact lv_ifnull hx hb hdg (k _ h3)
    · cases h
      obtain ⟨w, ws, rfl, h2, h3⟩ := P_vs_cons hst
      cases h2
      exact lv_ifnullN hx hb hdg (ht o rfl) (k _ h3)
    · cases h
  | ifnonnull o =>
    simp only [P_br] at h
    split at h
    · cases h
      obtain ⟨w, ws, rfl, ⟨q, h2, rfl⟩, h3⟩ := P_vs_cons hst
      exact lv_ifnonnull hx hb hdg (ht o rfl) (k _ h3)
    · cases h
      obtain ⟨w, ws, rfl, h2, h3⟩ := P_vs_cons hst
      cases h2
      exact lv_ifnonnullN hx hb hdg (k _ h3)
    · cases h
  | ifCond cd o =>
    simp only [P_br] at h
    split at h
    · next x r =>
      cases h
      obtain ⟨w, ws, rfl, h2, h3⟩ := P_vs_cons hst
      cases h2
      have k := k _ h3
      cases cd with
      | eq => exact lv_if_eq hx hb hdg (ht o rfl) (fun q => by rwa [if_pos (show P_cc .eq x 0 = true from decide_eq_true q)] at k) (fun q => by rwa [if_neg (show ¬ P_cc .eq x 0 = true from fun z => q (of_decide_eq_true z))] at k)
      | ne => exact lv_if_ne hx hb hdg (ht o rfl) (fun q => by rwa [if_pos (show P_cc .ne x 0 = true from decide_eq_true q)] at k) (fun q => by rwa [if_neg (show ¬ P_cc .ne x 0 = true from fun z => of_decide_eq_true z q)] at k)
      | lt => exact lv_if_lt hx hb hdg (ht o rfl) (fun q => by rwa [if_pos (show P_cc .lt x 0 = true from decide_eq_true q)] at k) (fun q => by rwa [if_neg (show ¬ P_cc .lt x 0 = true from fun z => q (of_decide_eq_true z))] at k)
      | ge => exact lv_if_ge hx hb hdg (ht o rfl) (fun q => by rwa [if_pos (show P_cc .ge x 0 = true from decide_eq_true q)] at k) (fun q => by rwa [if_neg (show ¬ P_cc .ge x 0 = true from fun z => q (of_decide_eq_true z))] at k)
      | gt => exact lv_if_gt hx hb hdg (ht o rfl) (fun q => by rwa [if_pos (show P_cc .gt x 0 = true from decide_eq_true q)] at k) (fun q => by rwa [if_neg (show ¬ P_cc .gt x 0 = true from fun z => q (of_decide_eq_true z))] at k)
      | le => exact lv_if_le hx hb hdg (ht o rfl) (fun q => by rwa [if_pos (show P_cc .le x 0 = true from decide_eq_true q)] at k) (fun q => by rwa [if_neg (show ¬ P_cc .le x 0 = true from fun z => q (of_decide_eq_true z))] at k)
    · cases h
  | if_icmp cd o =>
    simp only [P_br] at h
    split at h
    · next y x r =>
      cases h
      obtain ⟨w, ws, rfl, h2, h3⟩ := P_vs_cons hst
      obtain ⟨w2, ws2, rfl, h4, h5⟩ := P_vs_cons h3
      cases h2; cases h4
      have k := k _ h5
      cases cd with
      | eq => exact lv_icmp_eq hx hb hdg (ht o rfl) (fun q => by rwa [if_pos (show P_cc .eq x y = true from decide_eq_true q)] at k) (fun q => by rwa [if_neg (show ¬ P_cc .eq x y = true from fun z => q (of_decide_eq_true z))] at k)
      | ne => exact lv_icmp_ne hx hb hdg (ht o rfl) (fun q => by rwa [if_pos (show P_cc .ne x y = true from decide_eq_true q)] at k) (fun q => by rwa [if_neg (show ¬ P_cc .ne x y = true from fun z => of_decide_eq_true z q)] at k)
      | lt => exact lv_icmp_lt hx hb hdg (ht o rfl) (fun q => by rwa [if_pos (show P_cc .lt x y = true from decide_eq_true q)] at k) (fun q => by rwa [if_neg (show ¬ P_cc .lt x y = true from fun z => q (of_decide_eq_true z))] at k)
      | ge => exact lv_icmp_ge hx hb hdg (ht o rfl) (fun q => by rwa [if_pos (show P_cc .ge x y = true from decide_eq_true q)] at k) (fun q => by rwa [if_neg (show ¬ P_cc .ge x y = true from fun z => q (of_decide_eq_true z))] at k)
      | gt => exact lv_icmp_gt hx hb hdg (ht o rfl) (fun q => by rwa [if_pos (show P_cc .gt x y = true from decide_eq_true q)] at k) (fun q => by rwa [if_neg (show ¬ P_cc .gt x y = true from fun z => q (of_decide_eq_true z))] at k)
      | le => exact lv_icmp_le hx hb hdg (ht o rfl) (fun q => by rwa [if_pos (show P_cc .le x y = true from decide_eq_true q)] at k) (fun q => by rwa [if_neg (show ¬ P_cc .le x y = true from fun z => q (of_decide_eq_true z))] at k)
    · cases h
  | _ => cases h
theorem P_sw_ok (hx : p.tables.exec = Jvm.exec) (hb : c.code = cc) {i : Instr} {t len : Nat} (hdg : decode cc pc = .ok (i, len)) (hst : P_vs ρ st st') (h : P_sw i pc st = some (t, st1)) (hpos : ∀ dflt lo hi offs, i = .tableswitch dflt lo hi offs → 0 ≤ (pc : Int) + dflt ∧ ∀ o ∈ offs.toList, 0 ≤ (pc : Int) + o)
    (k : ∀ ws : List Value, P_vs ρ st1 ws → W p l e R s m args below meth c H locs cells slots Q (F0 m t ls ws)) : W p l e R s m args below meth c H locs cells slots Q (F0 m pc ls st') := by
  cases i with
  | tableswitch dflt lo hi offs =>
    obtain ⟨hd, ho⟩ := hpos _ _ _ _ rfl
    simp only [P_sw] at h
    split at h
    · next x r =>
      obtain ⟨w, ws, rfl, h2, h3⟩ := P_vs_cons hst
      cases h2
      split at h
      · next hq =>
        cases h
        exact lv_tableOut hx hb hdg hq (Int.toNat_of_nonneg hd).symm (k _ h3)
      · next hq =>
        split at h
        · next off hoff =>
          cases h
          have hm : off ∈ offs.toList := by
            obtain ⟨hlt, he⟩ := Array.getElem?_eq_some_iff.mp hoff
            rw [← he]
            exact Array.getElem_mem_toList hlt
          exact lv_tableIn hx hb hdg (fun q => hq (Or.inl q)) (fun q => hq (Or.inr q)) hoff (Int.toNat_of_nonneg (ho _ hm)).symm (k _ h3)
        · cases h
    · cases h
  | _ => cases h
end BR
end
section
/-! THE TIE, 4: cells -/
def P_ar (ρ : List Nat) (f g : (Nat → Int32) ⊕ (Nat → Int64) ⊕ (Nat → UInt32) ⊕ (Nat → UInt64) ⊕ (Nat → Option Nat)) : Prop := match f with
  | .inr (.inr (.inr (.inr f))) => ∃ g' : Nat → Option Nat, g = .inr (.inr (.inr (.inr g'))) ∧ ∀ j, (f j = none ∧ g' j = none) ∨ ∃ i q, f j = some i ∧ g' j = some q ∧ ρ[i]? = some q
  | f => g = f
def P_c (aty : Nat → FieldType) (tys : List (ClassId × FieldType)) (ρ : List Nat) (c : P_E) (e : va_E) : Prop := match c with
  | .inl (k, n, f) => ∃ (cA : ClassId) (t0 : Nat) (g : (Nat → Int32) ⊕ (Nat → Int64) ⊕ (Nat → UInt32) ⊕ (Nat → UInt64) ⊕ (Nat → Option Nat)), tys[t0]? = some (cA, aty k) ∧ e = .inl (cA, n, g) ∧ P_ar ρ f g
  | .inr (ci, fs) => ∃ fs' : List Value, e = .inr (ci, fs') ∧ P_vs ρ fs fs'
abbrev P_rho (ro : List Nat) (ws : va_W) : List Nat := ro ++ ws.map Prod.fst
/-- statics that hold rows never written: name of the kind, of the field, its descriptor, the row's number -/
abbrev P_T : Type := List (String × String × String × Nat)
def P_Wd (cl : List vw_C) (aty : Nat → FieldType) (nro : Nat) (stat : P_T) (D : va_G) (A : Nat → Prop) (s : State) (H : Heap) (locs : List Loc) (ro : List Nat) (ws : va_W) (tys : List (ClassId × FieldType)) (h : List P_E) : Prop :=
  va_P D cl ws H ∧ va_K D cl tys s ∧ va_D A ws ∧ va_S A s.heap H locs ∧ (∀ q, s.heap.size ≤ q → A q) ∧ ro.length = nro ∧ h.length = nro + ws.length ∧
  (∀ (i q : Nat), ro[i]? = some q → ∃ (n : Nat) (f : Nat → Int32), h[i]? = some ((.inl (0, n, .inl f) : P_E)) ∧ va_T .int q n (fun j => .int (f j)) A s s.heap) ∧
  (∀ (i : Nat) (c : P_E) (q : Nat) (e : va_E), h[nro + i]? = some c → ws[i]? = some (q, e) → P_c aty tys (P_rho ro ws) c e) ∧
  (∀ x ∈ stat, ∃ q : Nat, ro[x.2.2.2]? = some q ∧ va_Z x.1 x.2.1 x.2.2.1 (.ref q) A s s.heap)
theorem P_vs.len {ρ : List Nat} : ∀ {vs ws : List Value}, P_vs ρ vs ws → vs.length = ws.length
  | [], [], _ => rfl
  | _ :: _, _ :: _, h => congrArg (· + 1) (P_vs.len h.2)
  | [], _ :: _, h => h.elim
  | _ :: _, [], h => h.elim
theorem P_vs.get {ρ : List Nat} : ∀ {vs ws : List Value} {k : Nat} {v : Value}, P_vs ρ vs ws → vs[k]? = some v → ∃ w, ws[k]? = some w ∧ P_v ρ v w
  | _ :: _, w :: _, 0, v, h, e => ⟨w, rfl, by cases e; exact h.1⟩
  | _ :: _, _ :: _, k + 1, v, h, e => by simpa using P_vs.get (k := k) h.2 (by simpa using e)
  | [], [], _, _, _, e => by simp at e
  | [], _ :: _, _, _, h, _ => h.elim
  | _ :: _, [], _, _, h, _ => h.elim
theorem P_vs.set {ρ : List Nat} : ∀ {vs ws : List Value} {k : Nat} {v w : Value}, P_vs ρ vs ws → P_v ρ v w → P_vs ρ (vs.set k v) (ws.set k w)
  | _ :: _, _ :: _, 0, _, _, h, e => ⟨e, h.2⟩
  | _ :: _, _ :: _, _ + 1, _, _, h, e => ⟨h.1, P_vs.set h.2 e⟩
  | [], [], _, _, _, _, _ => trivial
  | [], _ :: _, _, _, _, h, _ => h.elim
  | _ :: _, [], _, _, _, h, _ => h.elim
theorem P_ar.mono {ρ ρ' : List Nat} (h : P_sub ρ ρ') {f g : (Nat → Int32) ⊕ (Nat → Int64) ⊕ (Nat → UInt32) ⊕ (Nat → UInt64) ⊕ (Nat → Option Nat)} (hf : P_ar ρ f g) : P_ar ρ' f g := by
  obtain f | f | f | f | f := f
  · exact hf
  · exact hf
  · exact hf
  · exact hf
  · obtain ⟨g', h1, h2⟩ := hf
    refine ⟨g', h1, fun j => (h2 j).imp id ?_⟩
    rintro ⟨i, q, a, b, c⟩
    exact ⟨i, q, a, b, h _ _ c⟩
theorem P_c.mono {aty : Nat → FieldType} {tys tys' : List (ClassId × FieldType)} {ρ ρ' : List Nat} (h : P_sub ρ ρ') (ht : ∀ (k : Nat) x, tys[k]? = some x → tys'[k]? = some x) {c : P_E} {e : va_E} (hc : P_c aty tys ρ c e) : P_c aty tys' ρ' c e := by
  obtain ⟨k, n, f⟩ | ⟨ci, fs⟩ := c
  · obtain ⟨cA, t0, g, h1, h2, h3⟩ := hc
    exact ⟨cA, t0, g, ht _ _ h1, h2, h3.mono h⟩
  · obtain ⟨fs', h1, h2⟩ := hc
    exact ⟨fs', h1, h2.mono h⟩
section WD
variable {cl : List vw_C} {aty : Nat → FieldType} {nro : Nat} {stat : P_T} {D : va_G} {A : Nat → Prop} {s : State} {H : Heap} {locs : List Loc} {ro : List Nat} {ws : va_W} {tys : List (ClassId × FieldType)} {h : List P_E}
/-- a written cell, by its number -/
theorem P_Wd.at (hW : P_Wd cl aty nro stat D A s H locs ro ws tys h) {a : Nat} {c : P_E} {w : Value} (ha : nro ≤ a) (hv : P_v (P_rho ro ws) (.ref a) w) (hc : h[a]? = some c) : ∃ (q : Nat) (e : va_E), w = .ref q ∧ ws[a - nro]? = some (q, e) ∧ P_c aty tys (P_rho ro ws) c e := by
  obtain ⟨-, -, -, -, -, h6, h7, -, h9, -⟩ := hW
  obtain ⟨q, hq, rfl⟩ := hv
  have hq2 : (ws.map Prod.fst)[a - nro]? = some q := by
    rw [P_rho, List.getElem?_append_right (by omega), h6] at hq
    exact hq
  rw [List.getElem?_map] at hq2
  obtain ⟨⟨q', e⟩, h1, h2⟩ := Option.map_eq_some_iff.mp hq2
  cases h2
  exact ⟨_, e, rfl, h1, h9 _ c _ e (by rw [show nro + (a - nro) = a by omega]; exact hc) h1⟩
theorem P_Wd.row (hW : P_Wd cl aty nro stat D A s H locs ro ws tys h) {a : Nat} {w : Value} (ha : a < nro) (hv : P_v (P_rho ro ws) (.ref a) w) : ∃ (q n : Nat) (f : Nat → Int32), w = .ref q ∧ h[a]? = some (.inl (0, n, .inl f)) ∧ va_T .int q n (fun j => .int (f j)) A s s.heap := by
  obtain ⟨-, -, -, -, -, h6, h7, h8, -, -⟩ := hW
  obtain ⟨q, hq, rfl⟩ := hv
  rw [P_rho, List.getElem?_append_left (by omega)] at hq
  obtain ⟨n, f, h1, h2⟩ := h8 a q hq
  exact ⟨q, n, f, rfl, h1, h2⟩
theorem P_rho_set {i : Nat} {q : Nat} {e0 e : va_E} (hi : ws[i]? = some (q, e0)) : P_rho ro (ws.set i (q, e)) = P_rho ro ws := by
  have : (ws.set i (q, e)).map Prod.fst = ws.map Prod.fst := by
    refine List.ext_getElem? fun k => ?_
    rw [List.getElem?_map, List.getElem?_map, List.getElem?_set]
    by_cases hk : i = k
    · subst hk
      rw [hi]
      simp [(List.getElem?_eq_some_iff.mp hi).1]
    · simp [hk]
  rw [P_rho, P_rho, this]
theorem P_Wd.set (hW : P_Wd cl aty nro stat D A s H locs ro ws tys h) {a : Nat} {q : Nat} {e0 e : va_E} {c : P_E} {H1 : Heap} {locs1 : List Loc} (ha : nro ≤ a) (hi : ws[a - nro]? = some (q, e0)) (hP : va_P D cl (ws.set (a - nro) (q, e)) H1) (hD : va_D A (ws.set (a - nro) (q, e))) (hS : va_S A s.heap H1 locs1) (hc : P_c aty tys (P_rho ro ws) c e) : P_Wd cl aty nro stat D A s H1 locs1 ro (ws.set (a - nro) (q, e)) tys (h.set a c) := by
  obtain ⟨h1, h2, h3, h4, h5, h6, h7, h8, h9, h10⟩ := hW
  refine ⟨hP, h2, hD, hS, h5, h6, by simpa using h7, fun i q' hq => ?_, fun i c' q' e' hc' he' => ?_, h10⟩
  · obtain ⟨n, f, g1, g2⟩ := h8 i q' hq
    have hlt : i < nro := by rw [← h6]; exact (List.getElem?_eq_some_iff.mp hq).1
    exact ⟨n, f, by rw [List.getElem?_set_ne (by omega)]; exact g1, g2⟩
  · rw [P_rho_set hi]
    rw [List.getElem?_set] at hc' he'
    by_cases hk : a - nro = i
    · subst hk
      rw [if_pos (by omega)] at hc'
      rw [if_pos rfl] at he'
      split at hc'
      · split at he'
        · cases hc'; cases he'
          exact hc
        · cases he'
      · cases hc'
    · rw [if_neg (by omega)] at hc'
      rw [if_neg hk] at he'
      exact h9 i c' q' e' hc' he'
theorem P_sub_push (ro : List Nat) (ws : va_W) (x : Nat × va_E) : P_sub (P_rho ro ws) (P_rho ro (ws ++ [x])) := by
  intro i q hq
  rw [P_rho, List.map_append, ← List.append_assoc]
  rw [List.getElem?_append_left (List.getElem?_eq_some_iff.mp hq).1]
  exact hq
theorem P_Wd.push (hW : P_Wd cl aty nro stat D A s H locs ro ws tys h) {q : Nat} {e : va_E} {c : P_E} {H1 : Heap} {tys1 : List (ClassId × FieldType)} (hK : va_K D cl (tys ++ tys1) s) (hP : va_P D cl (ws ++ [(q, e)]) H1) (hD : va_D A (ws ++ [(q, e)])) (hS : va_S A s.heap H1 locs) (hc : P_c aty (tys ++ tys1) (P_rho ro ws) c e) : P_Wd cl aty nro stat D A s H1 locs ro (ws ++ [(q, e)]) (tys ++ tys1) (h ++ [c]) := by
  obtain ⟨h1, h2, h3, h4, h5, h6, h7, h8, h9, h10⟩ := hW
  have ht : ∀ (k : Nat) x, tys[k]? = some x → (tys ++ tys1)[k]? = some x := fun k x hk => by
    rw [List.getElem?_append_left (List.getElem?_eq_some_iff.mp hk).1]; exact hk
  refine ⟨hP, hK, hD, hS, h5, h6, by simp [h7]; omega, fun i q' hq => ?_, fun i c' q' e' hc' he' => ?_, h10⟩
  · obtain ⟨n, f, g1, g2⟩ := h8 i q' hq
    exact ⟨n, f, by rw [List.getElem?_append_left (List.getElem?_eq_some_iff.mp g1).1]; exact g1, g2⟩
  · by_cases hk : i < ws.length
    · rw [List.getElem?_append_left (by omega)] at hc'
      rw [List.getElem?_append_left hk] at he'
      exact (h9 i c' q' e' hc' he').mono (P_sub_push ro ws _) ht
    · rw [List.getElem?_append_right (by omega)] at hc' he'
      have hz : i - ws.length < 1 := (List.getElem?_eq_some_iff.mp he').1
      rw [show nro + i - h.length = 0 by omega] at hc'
      rw [show i - ws.length = 0 by omega] at he'
      cases hc'; cases he'
      exact hc.mono (P_sub_push ro ws _) (fun _ _ q => q)
theorem P_Wd.new_v (hW : P_Wd cl aty nro stat D A s H locs ro ws tys h) (q : Nat) (e : va_E) : P_v (P_rho ro (ws ++ [(q, e)])) (.ref h.length) (.ref q) := by
  obtain ⟨h1, h2, h3, h4, h5, h6, h7, -⟩ := hW
  refine ⟨q, ?_, rfl⟩
  rw [P_rho, List.getElem?_append_right (by omega), h6, h7, List.getElem?_map, List.getElem?_append_right (by omega)]
  rw [show nro + ws.length - nro - ws.length = 0 by omega]
  rfl
end WD
theorem P_fits_ok {t : FieldType} {v w : Value} {ρ : List Nat} (h : P_fits t v = true) (hv : P_v ρ v w) : narrow t w = w ∧ fits t w = true := by
  cases t <;> simp only [P_fits] at h <;> first | (cases h; done) | skip
  all_goals cases v <;> simp only [fits] at h <;> first | (cases h; done) | skip
  all_goals simp only [P_v] at hv
  all_goals first | (subst hv; refine ⟨?_, h⟩) | (obtain ⟨q, -, rfl⟩ := hv; exact ⟨rfl, rfl⟩)
  all_goals first | rfl | skip
  next x =>
    rcases (by simpa using h : x = 0 ∨ x = 1) with rfl | rfl <;> rfl
end
section
/-! THE TIE, 5: what reads and writes cells -/
/-- a field's name at a place, for an object of the number ci -/
def P_fok (cl : List vw_C) (Tb : List Jvm.Cond) (own : String) (idx ci k : Nat) : Prop := ∃ (C : String) (T : u_T) (N : Nat) (ref : String), cl[ci]? = some (C, T, N) ∧ k < N ∧ (ref = (T k).1 ∨ Jvm.Cond.sameField ref (T k).1 (T k).2.1 (T k).2.2.1 ∈ Tb) ∧ (Jvm.Cond.fieldLink own idx ref (T k).2.1 (T k).2.2.1 ∈ Tb ∨ ∃ host, Jvm.Cond.fieldLinkNest own idx ref (T k).2.1 (T k).2.2.1 host ∈ Tb)
/-- the same for a write -/
def P_pok (cl : List vw_C) (Tb : List Jvm.Cond) (own : String) (ini : Bool) (idx ci k : Nat) : Prop := ∃ (C : String) (T : u_T) (N : Nat) (ref : String), cl[ci]? = some (C, T, N) ∧ k < N ∧ (ref = (T k).1 ∨ Jvm.Cond.sameField ref (T k).1 (T k).2.1 (T k).2.2.1 ∈ Tb) ∧ ((Jvm.Cond.fieldLink own idx ref (T k).2.1 (T k).2.2.1 ∈ Tb ∧ ((T k).2.2.2 = false ∨ ((T k).2.2.2 = true ∧ ini = true ∧ (T k).1 = own))) ∨ ∃ host, Jvm.Cond.fieldLinkNest own idx ref (T k).2.1 (T k).2.2.1 host ∈ Tb ∧ (T k).2.2.2 = false)
/-- what the tables say of the kinds of object -/
def P_clok (cl : List vw_C) (Z : P_Z) (Tb : List Jvm.Cond) : Prop := ∀ (ci : Nat) (C : String) (T : u_T) (N : Nat), cl[ci]? = some (C, T, N) → (∀ w ∈ u_ws C T N, w ∈ Tb) ∧ (∀ k, k < N → parseFieldDescriptor (T k).2.2.1 = some (Z.2.2 ci k)) ∧ (∀ a, a < N → ∀ b, b < N → a ≠ b → (T a).2.1 ≠ (T b).2.1) ∧ (Z.1 ci).length = N ∧ ∀ j, j < N → defaultValue (Z.2.2 ci j) = vp_V (Z.1 ci) j ∧ P_v [] ((Z.1 ci).getD j .null) ((Z.1 ci).getD j .null)
/-- what the types of rows are -/
def P_atok (cl : List vw_C) (aty : Nat → FieldType) : Prop := aty 0 = .int ∧ aty 1 = .long ∧ aty 2 = .double ∧ aty 3 = .boolean ∧ (∀ ci r, cl[ci]? = some r → aty (100 + ci) = .object r.1) ∧ ∀ k, 4 ≤ k → (∃ C, aty k = .object C) ∨ ∃ t, aty k = .array t
/-- what the tables say of an instruction that meets cells -/
def P_iok (cl : List vw_C) (aty : Nat → FieldType) (Z : P_Z) (Tb : List Jvm.Cond) (stat : P_T) (own : String) (ini : Bool) (i : Instr) (r1 : Int) (r2 : Nat) : Prop := match i with
  | .getfield idx => ∀ ci, Z.2.1 r1.toNat ci = true → P_fok cl Tb own idx ci r2
  | .putfield idx => ∀ ci, Z.2.1 r1.toNat ci = true → P_pok cl Tb own ini idx ci r2
  | .newarray t => newarray.typeOf t = aty r2 ∧ Jvm.Cond.arrayClass (aty r2) ∈ Tb
  | .anewarray idx => (∃ C, aty r2 = .object C ∧ Jvm.Cond.classLink own idx C ∈ Tb ∧ Jvm.Cond.arrayOver (.object C) ∈ Tb) ∨ (∃ t, aty r2 = .array t ∧ Jvm.Cond.classLink own idx (FieldType.array t).toString ∈ Tb ∧ Jvm.Cond.arrayOver (.array t) ∈ Tb)
  | .new idx => r2 < 1000 → ∃ (C : String) (T : u_T) (N : Nat), cl[r2]? = some (C, T, N) ∧ Jvm.Cond.classLink own idx C ∈ Tb ∧ Jvm.Cond.instantiable C N ∈ Tb ∧ Jvm.Cond.initialized C ∈ Tb
  | .getstatic idx => ∃ (C ref n d : String), (C, n, d, r2) ∈ stat ∧ (Jvm.Cond.fieldLink own idx ref n d ∈ Tb ∨ ∃ host, Jvm.Cond.fieldLinkNest own idx ref n d host ∈ Tb) ∧ (ref = C ∨ Jvm.Cond.sameField ref C n d ∈ Tb)
  | _ => True
/-- a method's frame -/
def P_Cx (Tb : List Jvm.Cond) (own : String) (ini : Bool) (cc : ByteArray) (nL : Nat) (p : Program) (s : State) (m : MethodId) (args : Array Value) (meth : Method) (c : Code) : Prop :=
  p.tables.exec = Jvm.exec ∧ c.code = cc ∧ c.maxLocals = nL ∧ s.vm.findClass own = some m.cls ∧ (∀ w ∈ Tb, w.before args s = true) ∧ meth.locks = false ∧ (ini = true → meth.name = "<init>")
section HP
variable {p : Program} {l : Launch} {e : Env} {R : Room} {s : State} {m : MethodId} {args : Array Value} {below : List Frame} {meth : Method} {c : Code} {H : Heap} {locs : List Loc} {cells slots : Nat} {Q : State → Prop} {cc : ByteArray} {pc nL : Nat} {ls : Array Slot} {rest : List Value} {L L1 st st1 st' : List Value}
variable {cl : List vw_C} {aty : Nat → FieldType} {nro : Nat} {stat : P_T} {D : va_G} {A : Nat → Prop} {ro : List Nat} {ws : va_W} {tys : List (ClassId × FieldType)} {h h1 : P_H} {Z : P_Z} {Tb : List Jvm.Cond} {own : String} {ini : Bool}
theorem P_hsame {args : Array Value} {s : State} {Tb : List Jvm.Cond} (hts : ∀ w ∈ Tb, w.before args s = true) {ref C n d : String} (h : ref = C ∨ Jvm.Cond.sameField ref C n d ∈ Tb) : ∀ x, s.fieldFound? C n d = some x → s.fieldFound? ref n d = some x := by
  rcases h with rfl | h
  · exact fun _ q => q
  · exact fun x q => u_same (hts _ h) x q
theorem P_ix_ok {j : Int32} {n k : Nat} (h : P_ix j n = some k) : vp_in j n ∧ k = j.toNatClampNeg := by
  unfold P_ix at h
  split at h
  · cases h
  · next hq => exact ⟨hq, (Option.some.inj h).symm⟩
set_option maxHeartbeats 4000000 in
theorem P_getf_ok (hC : P_Cx Tb own ini cc nL p s m args meth c) (hW : P_Wd cl aty nro stat D A s H locs ro ws tys h.1) (hcl : P_clok cl Z Tb) {idx : Nat} {r1 : Int} {r2 : Nat} (hok : P_iok cl aty Z Tb stat own ini (.getfield idx) r1 r2) (hdg : decode cc pc = .ok (.getfield idx, 3)) (hst : P_vs (P_rho ro ws) st st') (hh : P_hp Z nro (.getfield idx) r1 r2 st h = some (st1, h1))
    (k : ∀ ws' : List Value, P_vs (P_rho ro ws) st1 ws' → h1 = h → W p l e R s m args below meth c H locs cells slots Q (F0 m (pc + 3) ls ws')) : W p l e R s m args below meth c H locs cells slots Q (F0 m pc ls st') := by
  obtain ⟨hx, hb, -, hown, hts, -, -⟩ := hC
  simp only [P_hp] at hh
  split at hh
  · next a r =>
    split at hh
    · next ci fs hc =>
      split at hh
      · next hcond =>
        split at hh
        · next v hv =>
          cases hh
          obtain ⟨w, ws2, rfl, h2, h3⟩ := P_vs_cons hst
          obtain ⟨q, e1, rfl, h4, fs', rfl, h5⟩ := hW.at hcond.1 h2 hc
          obtain ⟨C, T, N, ref, g1, g2, g3, g4⟩ := hok ci hcond.2
          obtain ⟨w', hw1, hw2⟩ := h5.get hv
          have hin : ∀ x ∈ u_ws C T N, x ∈ Tb := (hcl ci C T N g1).1
          rcases g4 with g4 | ⟨host, g4⟩
          · exact va_get (D := D) (cl := cl) hx hb hts hin hown hW.2.1 hW.1 _ h4 g1 r2 g2 (hts _ g4) (P_hsame hts g3) hw1 hdg (k _ ⟨hw2, h3⟩ rfl)
          · exact va_getN (D := D) (cl := cl) hx hb hts hin hown hW.2.1 hW.1 _ h4 g1 r2 g2 (hts _ g4) (P_hsame hts g3) hw1 hdg (k _ ⟨hw2, h3⟩ rfl)
        · cases hh
      · cases hh
    · cases hh
  · cases hh
set_option maxHeartbeats 4000000 in
theorem P_putf_ok (hC : P_Cx Tb own ini cc nL p s m args meth c) (hW : P_Wd cl aty nro stat D A s H locs ro ws tys h.1) (hcl : P_clok cl Z Tb) {idx : Nat} {r1 : Int} {r2 : Nat} (hok : P_iok cl aty Z Tb stat own ini (.putfield idx) r1 r2) (hdg : decode cc pc = .ok (.putfield idx, 3)) (hst : P_vs (P_rho ro ws) st st') (hh : P_hp Z nro (.putfield idx) r1 r2 st h = some (st1, h1))
    (k : ∀ (H1 : Heap) (locs1 : List Loc) (ws1 : va_W) (ws' : List Value), P_rho ro ws1 = P_rho ro ws → P_Wd cl aty nro stat D A s H1 locs1 ro ws1 tys h1.1 → h1.2 = h.2 → P_vs (P_rho ro ws) st1 ws' → W p l e R s m args below meth c H1 locs1 cells slots Q (F0 m (pc + 3) ls ws')) : W p l e R s m args below meth c H locs cells slots Q (F0 m pc ls st') := by
  obtain ⟨hx, hb, -, hown, hts, -, hini⟩ := hC
  simp only [P_hp] at hh
  split at hh
  · next v a r =>
    split at hh
    · next ci fs hc =>
      split at hh
      · next hcond =>
        cases hh
        obtain ⟨w, ws2, rfl, h2, h3⟩ := P_vs_cons hst
        obtain ⟨w2, ws3, rfl, h4, h5⟩ := P_vs_cons h3
        obtain ⟨q, e1, rfl, h6, fs', rfl, h7⟩ := hW.at hcond.1 h4 hc
        obtain ⟨C, T, N, ref, g1, g2, g3, g4⟩ := hok ci hcond.2.1
        obtain ⟨c1, c2, c3, c4, -⟩ := hcl ci C T N g1
        obtain ⟨f1, f2⟩ := P_fits_ok hcond.2.2.1 h2
        have hlen : r2 < fs'.length := by rw [← h7.len]; exact hcond.2.2.2
        have kk : ∀ (H1 : Heap) (locs1 : List Loc), va_P D cl (ws.set (a - nro) (q, .inr (ci, fs'.set r2 w))) H1 → va_D A (ws.set (a - nro) (q, .inr (ci, fs'.set r2 w))) → va_S A s.heap H1 locs1 → W p l e R s m args below meth c H1 locs1 cells slots Q (F0 m (pc + 3) ls ws3) := fun H1 locs1 hP hD hS =>
          k H1 locs1 _ _ (P_rho_set h6) (hW.set hcond.1 h6 hP hD hS ⟨_, rfl, h7.set h2⟩) rfl h5
        rcases g4 with ⟨g4, g5 | ⟨g5, g6, g7⟩⟩ | ⟨host, g4, g5⟩
        · exact va_put (D := D) (cl := cl) hx hb hts c1 (Z.2.2 ci) c2 c3 hown hW.2.1 hW.1 hW.2.2.1 hW.2.2.2.1 _ h6 g1 r2 g2 (hts _ g4) (P_hsame hts g3) g5 (c2 r2 g2) f1 f2 hlen hdg kk
        · exact va_putF (D := D) (cl := cl) hx hb hts c1 (Z.2.2 ci) c2 c3 hown hW.2.1 hW.1 hW.2.2.1 hW.2.2.2.1 _ h6 g1 r2 g2 (hts _ g4) (P_hsame hts g3) g5 (hini g6) g7 (c2 r2 g2) f1 f2 hlen hdg kk
        · exact va_putN (D := D) (cl := cl) hx hb hts c1 (Z.2.2 ci) c2 c3 hown hW.2.1 hW.1 hW.2.2.1 hW.2.2.2.1 _ h6 g1 r2 g2 (hts _ g4) (P_hsame hts g3) g5 (c2 r2 g2) f1 f2 hlen hdg kk
      · cases hh
    · cases hh
  · cases hh
end HP
end
section
/-! THE TIE, 6: rows -/
section AR
variable {p : Program} {l : Launch} {e : Env} {R : Room} {s : State} {m : MethodId} {args : Array Value} {below : List Frame} {meth : Method} {c : Code} {H : Heap} {locs : List Loc} {cells slots : Nat} {Q : State → Prop} {cc : ByteArray} {pc nL : Nat} {ls : Array Slot} {rest : List Value} {L L1 st st1 st' : List Value}
variable {cl : List vw_C} {aty : Nat → FieldType} {nro : Nat} {stat : P_T} {D : va_G} {A : Nat → Prop} {ro : List Nat} {ws : va_W} {tys : List (ClassId × FieldType)} {h h1 : P_H} {Z : P_Z} {Tb : List Jvm.Cond} {own : String} {ini : Bool} {r1 : Int} {r2 : Nat}
theorem P_bind_some {α β : Type} {o : Option α} {f : α → Option β} {b : β} (h : o.bind f = some b) : ∃ a, o = some a ∧ f a = some b := by
  cases o with
  | none => cases h
  | some a => exact ⟨a, rfl, h⟩
theorem P_aald (hx : p.tables.exec = Jvm.exec) (hb : c.code = cc) (hK : va_K D cl tys s) (hP : va_P D cl ws H) (q0 t0 : Nat) {a : Nat} {cA : ClassId} {ty : FieldType} {n : Nat} {f : Nat → Option Nat} (ha : ws[q0]? = some (a, .inl (cA, n, .inr (.inr (.inr (.inr f)))))) (ht : tys[t0]? = some (cA, ty)) (hty : ty.isReference = true) {i : Int32} (hin : vp_in i n) (hdg : decode cc pc = .ok (.aaload, 1))
    (kk : W p l e R s m args below meth c H locs cells slots Q (F0 m (pc + 1) ls (va_rf (f i.toNatClampNeg) :: rest))) : W p l e R s m args below meth c H locs cells slots Q (F0 m pc ls (.int i :: .ref a :: rest)) := by
  have hlt : i.toNatClampNeg < n := Nat.not_le.mp fun q => hin (Or.inr q)
  exact W.aald (v := va_rf (f i.toNatClampNeg)) (ty := ty) hx hb (hP q0 _ ha) ((hK.2 t0 _ ht).1 n (fun j => va_rf (f j))) hty (fun q => by cases q) (by show ¬ (i < 0 ∨ (arrV _ _ _).slots.size ≤ _); rw [arrV_size]; exact hin) (by show (arrV _ _ _).slots[_]? = _; rw [arrV_read _ _ hlt]) rfl rfl hdg kk
set_option maxHeartbeats 4000000 in
/-- the rows' reads -/
theorem P_ald_ok (hC : P_Cx Tb own ini cc nL p s m args meth c) (hW : P_Wd cl aty nro stat D A s H locs ro ws tys h.1) (hat : P_atok cl aty) {i : Instr} (hi : i = .iaload ∨ i = .baload ∨ i = .laload ∨ i = .daload ∨ i = .aaload) (hdg : decode cc pc = .ok (i, 1)) (hst : P_vs (P_rho ro ws) st st') (hh : P_hp Z nro i r1 r2 st h = some (st1, h1))
    (k : ∀ ws' : List Value, P_vs (P_rho ro ws) st1 ws' → h1 = h → W p l e R s m args below meth c H locs cells slots Q (F0 m (pc + 1) ls ws')) : W p l e R s m args below meth c H locs cells slots Q (F0 m pc ls st') := by
  obtain ⟨hx, hb, -, hown, hts, -, -⟩ := hC
  obtain ⟨a0, a1, a2, a3, -, a4⟩ := hat
  rcases hi with rfl | rfl | rfl | rfl | rfl
  · simp only [P_hp] at hh
    split at hh
    · next j a r =>
      split at hh
      · next n f hc =>
        obtain ⟨kx, hk, hh⟩ := P_bind_some hh
        cases hh
        obtain ⟨hin, rfl⟩ := P_ix_ok hk
        obtain ⟨w, ws2, rfl, h2, h3⟩ := P_vs_cons hst
        obtain ⟨w2, ws3, rfl, h4, h5⟩ := P_vs_cons h3
        cases h2
        by_cases ha : nro ≤ a
        · obtain ⟨q, e1, rfl, h6, cA, t0, g, g1, rfl, g3⟩ := hW.at ha h4 hc
          cases g3
          exact va_iald (D := D) (cl := cl) hx hb hW.2.1 hW.1 _ t0 h6 (by rw [g1, a0]) hin hdg (k _ ⟨rfl, h5⟩ rfl)
        · obtain ⟨q, n', f', rfl, g1, g2⟩ := hW.row (by omega) h4
          cases g1.symm.trans hc
          exact va_ti hx hb g2 hW.2.2.2.1 hin rfl hdg (k _ ⟨rfl, h5⟩ rfl)
      · cases hh
    · cases hh
  · simp only [P_hp] at hh
    split at hh
    · next j a r =>
      split at hh
      · next n f hc =>
        split at hh
        · next ha =>
          obtain ⟨kx, hk, hh⟩ := P_bind_some hh
          cases hh
          obtain ⟨hin, rfl⟩ := P_ix_ok hk
          obtain ⟨w, ws2, rfl, h2, h3⟩ := P_vs_cons hst
          obtain ⟨w2, ws3, rfl, h4, h5⟩ := P_vs_cons h3
          cases h2
          obtain ⟨q, e1, rfl, h6, cA, t0, g, g1, rfl, g3⟩ := hW.at ha h4 hc
          cases g3
          exact va_zald (D := D) (cl := cl) hx hb hW.2.1 hW.1 _ t0 h6 (by rw [g1, a3]) hin hdg (k _ ⟨rfl, h5⟩ rfl)
        · cases hh
      · cases hh
    · cases hh
  · simp only [P_hp] at hh
    split at hh
    · next j a r =>
      split at hh
      · next n f hc =>
        split at hh
        · next ha =>
          obtain ⟨kx, hk, hh⟩ := P_bind_some hh
          cases hh
          obtain ⟨hin, rfl⟩ := P_ix_ok hk
          obtain ⟨w, ws2, rfl, h2, h3⟩ := P_vs_cons hst
          obtain ⟨w2, ws3, rfl, h4, h5⟩ := P_vs_cons h3
          cases h2
          obtain ⟨q, e1, rfl, h6, cA, t0, g, g1, rfl, g3⟩ := hW.at ha h4 hc
          cases g3
          exact va_lald (D := D) (cl := cl) hx hb hW.2.1 hW.1 _ t0 h6 (by rw [g1, a1]) hin hdg (k _ ⟨rfl, h5⟩ rfl)
        · cases hh
      · cases hh
    · cases hh
  · simp only [P_hp] at hh
    split at hh
    · next j a r =>
      split at hh
      · next n f hc =>
        split at hh
        · next ha =>
          obtain ⟨kx, hk, hh⟩ := P_bind_some hh
          cases hh
          obtain ⟨hin, rfl⟩ := P_ix_ok hk
          obtain ⟨w, ws2, rfl, h2, h3⟩ := P_vs_cons hst
          obtain ⟨w2, ws3, rfl, h4, h5⟩ := P_vs_cons h3
          cases h2
          obtain ⟨q, e1, rfl, h6, cA, t0, g, g1, rfl, g3⟩ := hW.at ha h4 hc
          cases g3
          exact va_dald (D := D) (cl := cl) hx hb hW.2.1 hW.1 _ t0 h6 (by rw [g1, a2]) hin hdg (k _ ⟨rfl, h5⟩ rfl)
        · cases hh
      · cases hh
    · cases hh
  · simp only [P_hp] at hh
    split at hh
    · next j a r =>
      split at hh
      · next ty n f hc =>
        split at hh
        · next ha =>
          obtain ⟨kx, hk, hh⟩ := P_bind_some hh
          cases hh
          obtain ⟨hin, rfl⟩ := P_ix_ok hk
          obtain ⟨w, ws2, rfl, h2, h3⟩ := P_vs_cons hst
          obtain ⟨w2, ws3, rfl, h4, h5⟩ := P_vs_cons h3
          cases h2
          obtain ⟨q, e1, rfl, h6, cA, t0, g, g1, rfl, g', rfl, g4⟩ := hW.at ha.1 h4 hc
          have hty : (aty ty).isReference = true := by
            rcases a4 ty ha.2 with ⟨C, hq⟩ | ⟨t, hq⟩ <;> rw [hq] <;> rfl
          refine P_aald (D := D) (cl := cl) hx hb hW.2.1 hW.1 _ t0 h6 g1 hty hin hdg (k _ ⟨?_, h5⟩ rfl)
          rcases g4 j.toNatClampNeg with ⟨b1, b2⟩ | ⟨i, q2, b1, b2, b3⟩
          · rw [b1, b2]
            rfl
          · rw [b1, b2]
            exact ⟨q2, b3, rfl⟩
        · cases hh
      · cases hh
    · cases hh
set_option maxHeartbeats 4000000 in
/-- the rows' writes -/
theorem P_ast_ok (hC : P_Cx Tb own ini cc nL p s m args meth c) (hW : P_Wd cl aty nro stat D A s H locs ro ws tys h.1) (hat : P_atok cl aty) {i : Instr} (hi : i = .iastore ∨ i = .bastore ∨ i = .lastore ∨ i = .dastore ∨ i = .aastore) (hdg : decode cc pc = .ok (i, 1)) (hst : P_vs (P_rho ro ws) st st') (hh : P_hp Z nro i r1 r2 st h = some (st1, h1))
    (k : ∀ (H1 : Heap) (locs1 : List Loc) (ws1 : va_W) (ws' : List Value), P_rho ro ws1 = P_rho ro ws → P_Wd cl aty nro stat D A s H1 locs1 ro ws1 tys h1.1 → h1.2 = h.2 → P_vs (P_rho ro ws) st1 ws' → W p l e R s m args below meth c H1 locs1 cells slots Q (F0 m (pc + 1) ls ws')) : W p l e R s m args below meth c H locs cells slots Q (F0 m pc ls st') := by
  obtain ⟨hx, hb, -, hown, hts, -, -⟩ := hC
  obtain ⟨a0, a1, a2, a3, a5, a4⟩ := hat
  rcases hi with rfl | rfl | rfl | rfl | rfl
  · simp only [P_hp] at hh
    split at hh
    · next x j a r =>
      split at hh
      · next n f hc =>
        split at hh
        · next ha =>
          obtain ⟨kx, hk, hh⟩ := P_bind_some hh
          cases hh
          obtain ⟨hin, rfl⟩ := P_ix_ok hk
          obtain ⟨w0, ws0, rfl, h0, h0'⟩ := P_vs_cons hst
          obtain ⟨w, ws2, rfl, h2, h3⟩ := P_vs_cons h0'
          obtain ⟨w2, ws3, rfl, h4, h5⟩ := P_vs_cons h3
          cases h2; cases h0
          obtain ⟨q, e1, rfl, h6, cA, t0, g, g1, rfl, g3⟩ := hW.at ha h4 hc
          cases g3
          exact va_iast (D := D) (cl := cl) hx hb hW.2.1 hW.1 hW.2.2.1 hW.2.2.2.1 _ t0 h6 (by rw [g1, a0]) hin hdg (fun H1 locs1 hP hD hS => k H1 locs1 _ _ (P_rho_set h6) (hW.set ha h6 hP hD hS ⟨cA, t0, _, g1, rfl, rfl⟩) rfl h5)
        · cases hh
      · cases hh
    · cases hh
  · simp only [P_hp] at hh
    split at hh
    · next x j a r =>
      split at hh
      · next n f hc =>
        split at hh
        · next ha =>
          obtain ⟨kx, hk, hh⟩ := P_bind_some hh
          cases hh
          obtain ⟨hin, rfl⟩ := P_ix_ok hk
          obtain ⟨w0, ws0, rfl, h0, h0'⟩ := P_vs_cons hst
          obtain ⟨w, ws2, rfl, h2, h3⟩ := P_vs_cons h0'
          obtain ⟨w2, ws3, rfl, h4, h5⟩ := P_vs_cons h3
          cases h2; cases h0
          obtain ⟨q, e1, rfl, h6, cA, t0, g, g1, rfl, g3⟩ := hW.at ha h4 hc
          cases g3
          exact va_zast (D := D) (cl := cl) hx hb hW.2.1 hW.1 hW.2.2.1 hW.2.2.2.1 _ t0 h6 (by rw [g1, a3]) hin hdg (fun H1 locs1 hP hD hS => k H1 locs1 _ _ (P_rho_set h6) (hW.set ha h6 hP hD hS ⟨cA, t0, _, g1, rfl, rfl⟩) rfl h5)
        · cases hh
      · cases hh
    · cases hh
  · simp only [P_hp] at hh
    split at hh
    · next x j a r =>
      split at hh
      · next n f hc =>
        split at hh
        · next ha =>
          obtain ⟨kx, hk, hh⟩ := P_bind_some hh
          cases hh
          obtain ⟨hin, rfl⟩ := P_ix_ok hk
          obtain ⟨w0, ws0, rfl, h0, h0'⟩ := P_vs_cons hst
          obtain ⟨w, ws2, rfl, h2, h3⟩ := P_vs_cons h0'
          obtain ⟨w2, ws3, rfl, h4, h5⟩ := P_vs_cons h3
          cases h2; cases h0
          obtain ⟨q, e1, rfl, h6, cA, t0, g, g1, rfl, g3⟩ := hW.at ha h4 hc
          cases g3
          exact va_last (D := D) (cl := cl) hx hb hW.2.1 hW.1 hW.2.2.1 hW.2.2.2.1 _ t0 h6 (by rw [g1, a1]) hin hdg (fun H1 locs1 hP hD hS => k H1 locs1 _ _ (P_rho_set h6) (hW.set ha h6 hP hD hS ⟨cA, t0, _, g1, rfl, rfl⟩) rfl h5)
        · cases hh
      · cases hh
    · cases hh
  · simp only [P_hp] at hh
    split at hh
    · next x j a r =>
      split at hh
      · next n f hc =>
        split at hh
        · next ha =>
          obtain ⟨kx, hk, hh⟩ := P_bind_some hh
          cases hh
          obtain ⟨hin, rfl⟩ := P_ix_ok hk
          obtain ⟨w0, ws0, rfl, h0, h0'⟩ := P_vs_cons hst
          obtain ⟨w, ws2, rfl, h2, h3⟩ := P_vs_cons h0'
          obtain ⟨w2, ws3, rfl, h4, h5⟩ := P_vs_cons h3
          cases h2; cases h0
          obtain ⟨q, e1, rfl, h6, cA, t0, g, g1, rfl, g3⟩ := hW.at ha h4 hc
          cases g3
          exact va_dast (D := D) (cl := cl) hx hb hW.2.1 hW.1 hW.2.2.1 hW.2.2.2.1 _ t0 h6 (by rw [g1, a2]) hin hdg (fun H1 locs1 hP hD hS => k H1 locs1 _ _ (P_rho_set h6) (hW.set ha h6 hP hD hS ⟨cA, t0, _, g1, rfl, rfl⟩) rfl h5)
        · cases hh
      · cases hh
    · cases hh
  · simp only [P_hp] at hh
    split at hh
    · next x j a r =>
      split at hh
      · next ty n f hc =>
        split at hh
        · next ci fs hc2 =>
          split at hh
          · next hcond =>
            obtain ⟨kx, hk, hh⟩ := P_bind_some hh
            cases hh
            obtain ⟨hin, rfl⟩ := P_ix_ok hk
            obtain ⟨w0, ws0, rfl, h0, h0'⟩ := P_vs_cons hst
            obtain ⟨w, ws2, rfl, h2, h3⟩ := P_vs_cons h0'
            obtain ⟨w2, ws3, rfl, h4, h5⟩ := P_vs_cons h3
            cases h2
            obtain ⟨ha, hx0, rfl⟩ := hcond
            obtain ⟨q, e1, rfl, h6, cA, t0, g, g1, rfl, g', rfl, g4⟩ := hW.at ha h4 hc
            have hrho : P_v (P_rho ro ws) (.ref x) w0 := h0
            obtain ⟨q2, e2, rfl, h7, fs', rfl, h8⟩ := hW.at hx0 h0 hc2
            obtain ⟨rr, hrr, -⟩ := hW.1 _ _ h7
            refine va_astq (D := D) (cl := cl) hx hb hW.2.1 hW.1 hW.2.2.1 hW.2.2.2.1 _ t0 (x - nro) ci (r := rr) h6 (by rw [g1, a5 _ _ hrr]) h7 hrr hin hdg (fun H1 locs1 hP hD hS => k H1 locs1 _ _ (P_rho_set h6) (hW.set ha h6 hP hD hS ⟨cA, t0, _, g1, rfl, _, rfl, fun jj => ?_⟩) rfl h5)
            obtain ⟨q3, hq3, e3⟩ := hrho
            cases e3
            by_cases hjj : jj = j.toNatClampNeg
            · exact Or.inr ⟨x, q2, by simp [va_up, hjj], by simp [va_up, hjj], hq3⟩
            · simpa [va_up, hjj] using g4 jj
          · cases hh
        · cases hh
      · cases hh
    · cases hh
set_option maxHeartbeats 4000000 in
theorem P_alen_ok (hC : P_Cx Tb own ini cc nL p s m args meth c) (hW : P_Wd cl aty nro stat D A s H locs ro ws tys h.1) (hdg : decode cc pc = .ok (.arraylength, 1)) (hst : P_vs (P_rho ro ws) st st') (hh : P_hp Z nro .arraylength r1 r2 st h = some (st1, h1))
    (k : ∀ ws' : List Value, P_vs (P_rho ro ws) st1 ws' → h1 = h → W p l e R s m args below meth c H locs cells slots Q (F0 m (pc + 1) ls ws')) : W p l e R s m args below meth c H locs cells slots Q (F0 m pc ls st') := by
  obtain ⟨hx, hb, -, hown, hts, -, -⟩ := hC
  simp only [P_hp] at hh
  split at hh
  · next a r =>
    split at hh
    · next ty n f hc =>
      split at hh
      · next hcond =>
        cases hh
        obtain ⟨w2, ws3, rfl, h4, h5⟩ := P_vs_cons hst
        by_cases ha : nro ≤ a
        · obtain ⟨q, e1, rfl, h6, cA, t0, g, g1, rfl, g3⟩ := hW.at ha h4 hc
          exact va_alen (D := D) (cl := cl) hx hb hW.2.1 hW.1 _ t0 h6 g1 rfl hdg (k _ ⟨rfl, h5⟩ rfl)
        · obtain ⟨q, n', f', rfl, g1, g2⟩ := hW.row (by omega) h4
          cases g1.symm.trans hc
          exact va_tlen hx hb g2 hW.2.2.2.1 rfl hdg (k _ ⟨rfl, h5⟩ rfl)
      · cases hh
    · cases hh
  · cases hh
set_option maxHeartbeats 4000000 in
theorem P_gets_ok (hC : P_Cx Tb own ini cc nL p s m args meth c) (hW : P_Wd cl aty nro stat D A s H locs ro ws tys h.1) {idx : Nat} (hok : P_iok cl aty Z Tb stat own ini (.getstatic idx) r1 r2) (hdg : decode cc pc = .ok (.getstatic idx, 3)) (hst : P_vs (P_rho ro ws) st st') (hh : P_hp Z nro (.getstatic idx) r1 r2 st h = some (st1, h1))
    (k : ∀ ws' : List Value, P_vs (P_rho ro ws) st1 ws' → h1 = h → W p l e R s m args below meth c H locs cells slots Q (F0 m (pc + 3) ls ws')) : W p l e R s m args below meth c H locs cells slots Q (F0 m pc ls st') := by
  obtain ⟨hx, hb, -, hown, hts, -, -⟩ := hC
  cases hh
  obtain ⟨C, ref, n, d, g1, g2, g3⟩ := hok
  obtain ⟨q, b1, b2⟩ := hW.2.2.2.2.2.2.2.2.2 _ g1
  have hv : P_v (P_rho ro ws) (.ref r2) (.ref q) := by
    refine ⟨q, ?_, rfl⟩
    rw [P_rho, List.getElem?_append_left (List.getElem?_eq_some_iff.mp b1).1]
    exact b1
  rcases g2 with g2 | ⟨host, g2⟩
  · exact va_gets hx hb b2 hW.2.2.2.1 hown (hts _ g2) (P_hsame hts g3) hdg (k _ ⟨hv, hst⟩ rfl)
  · exact va_getsN hx hb b2 hW.2.2.2.1 hown (hts _ g2) (P_hsame hts g3) hdg (k _ ⟨hv, hst⟩ rfl)
end AR
end
section
/-! THE TIE, 7: what is made -/
section NW
variable {p : Program} {l : Launch} {e : Env} {R : Room} {s : State} {m : MethodId} {args : Array Value} {below : List Frame} {meth : Method} {c : Code} {H H0 : Heap} {locs : List Loc} {cells slots : Nat} {Q : State → Prop} {cc : ByteArray} {pc nL : Nat} {ls : Array Slot} {rest : List Value} {L L1 st st1 st' : List Value}
variable {cl : List vw_C} {aty : Nat → FieldType} {nro : Nat} {stat : P_T} {D : va_G} {A : Nat → Prop} {ro : List Nat} {ws : va_W} {tys : List (ClassId × FieldType)} {h h1 : P_H} {Z : P_Z} {Tb : List Jvm.Cond} {own : String} {ini : Bool} {r1 : Int} {r2 : Nat}
/-- a row of rows: as va_newq, after the kit's -/
theorem P_newr (hx : p.tables.exec = Jvm.exec) (hb : c.code = cc) {t : FieldType} {index : Nat} (hown : s.vm.findClass own = some m.cls) (hclink : (Jvm.Cond.classLink own index (FieldType.array t).toString).before args s = true) (hover : (Jvm.Cond.arrayOver (.array t)).before args s = true) (hK : va_K D cl tys s) (hP : va_P D cl ws H) (hD : va_D A ws) (hS : va_S A H0 H locs) (hA : ∀ q, H0.size ≤ q → A q)
    {n : Int32} {N' : Nat} (hn : ¬ n < 0) (hN : n.toNatClampNeg = N') (hbytes : N' * 4 ≤ 536870912) (hcells : cells + 1 ≤ R.cells) (hslots : slots + N' ≤ R.slots) (hdg : decode cc pc = .ok (.anewarray index, 3))
    (kk : ∀ (q : Nat) (cA : ClassId) (H1 : Heap), va_K D cl (tys ++ [(cA, .array t)]) s → va_P D cl (ws ++ [(q, .inl (cA, N', .inr (.inr (.inr (.inr (fun _ => none))))))]) H1 → va_D A (ws ++ [(q, .inl (cA, N', .inr (.inr (.inr (.inr (fun _ => none))))))]) → va_S A H0 H1 locs →
      W p l e R s m args below meth c H1 locs (cells + 1) (slots + N') Q (F0 m (pc + 3) ls (.ref q :: rest))) : W p l e R s m args below meth c H locs cells slots Q (F0 m pc ls (.int n :: rest)) := by
  subst hN
  refine W.anewA hx hb hown hclink hover rfl hdg rfl hn hbytes hcells hslots fun cA kA comp f1 f2 f3 f4 => ?_
  generalize hH1 : H.push ({ cls := cA, slots := Array.replicate n.toNatClampNeg .null, vm := .none } : Cell) = H1
  have z1 : H1.size = H.size + 1 := by rw [← hH1, Array.size_push]
  have e1 : H1[H.size]? = some (arrV cA n.toNatClampNeg (fun _ => .null)) := by rw [← hH1, Array.getElem?_push_size, ← arrV_new]
  have o1 : ∀ q : Nat, q < H.size → H1[q]? = H[q]? := fun q hq => by rw [← hH1, Array.getElem?_push, if_neg (Nat.ne_of_lt hq)]
  have hAr : ArrOfT s cA (.array t) := fun N z => ⟨(fun k h => by cases h), kA, f2, comp, f3⟩
  have hk : ∀ (k : Nat) (x : Nat × va_E), ws[k]? = some x → H1[x.1]? = H[x.1]? := fun k x hx => o1 x.1 ((hP k x hx).lt)
  refine kk H.size cA H1 ⟨hK.1, fun k x hx => ?_⟩ ((hP.kept hk).app (fun k x hx => ?_)) (hD.push hP rfl (hA _ hS.1)) ⟨Nat.le_trans hS.1 (by omega), fun x h1 h2 => (o1 x (Nat.lt_of_lt_of_le h1 hS.1)).trans (hS.2.1 x h1 h2), hS.2.2⟩
  · by_cases hl : k < tys.length
    · rw [List.getElem?_append_left hl] at hx
      exact hK.2 k x hx
    · rw [List.getElem?_append_right (by omega)] at hx
      have hz : k - tys.length < 1 := (List.getElem?_eq_some_iff.mp hx).1
      rw [show k - tys.length = 0 by omega] at hx
      cases hx
      exact ⟨hAr, f1⟩
  · have hz : k < 1 := (List.getElem?_eq_some_iff.mp hx).1
    rw [show k = 0 by omega] at hx
    cases hx
    exact e1
theorem P_defs_ok {ρ : List Nat} : ∀ {fs : List Value}, (∀ j, j < fs.length → P_v [] (fs.getD j .null) (fs.getD j .null)) → P_vs ρ fs fs
  | [], _ => trivial
  | v :: fs, h => by
    refine ⟨(h 0 (by simp)).mono (fun i q hq => by simp at hq), P_defs_ok fun j hj => ?_⟩
    have := h (j + 1) (by simpa using hj)
    simpa using this
set_option maxHeartbeats 4000000 in
theorem P_new_ok (hC : P_Cx Tb own ini cc nL p s m args meth c) (hW : P_Wd cl aty nro stat D A s H locs ro ws tys h.1) (hcl : P_clok cl Z Tb) (hat : P_atok cl aty) {i : Instr} (hi : (∃ idx, i = .new idx) ∨ (∃ t, i = .newarray t) ∨ ∃ idx, i = .anewarray idx) (hok : P_iok cl aty Z Tb stat own ini i r1 r2) (hdg : decode cc pc = .ok (i, P_len i)) (hst : P_vs (P_rho ro ws) st st') (hh : P_hp Z nro i r1 r2 st h = some (st1, h1)) (hrc : cells + h1.2.1 ≤ R.cells + h.2.1) (hrs : slots + h1.2.2 ≤ R.slots + h.2.2)
    (k : ∀ (H1 : Heap) (ws1 : va_W) (tys1 : List (ClassId × FieldType)) (ws' : List Value) (cells1 slots1 : Nat), P_sub (P_rho ro ws) (P_rho ro ws1) → P_Wd cl aty nro stat D A s H1 locs ro ws1 tys1 h1.1 → cells1 + h.2.1 = cells + h1.2.1 → slots1 + h.2.2 = slots + h1.2.2 → P_vs (P_rho ro ws1) st1 ws' → W p l e R s m args below meth c H1 locs cells1 slots1 Q (F0 m (pc + P_len i) ls ws')) : W p l e R s m args below meth c H locs cells slots Q (F0 m pc ls st') := by
  obtain ⟨hx, hb, -, hown, hts, -, -⟩ := hC
  obtain ⟨a0, a1, a2, a3, -, a4⟩ := hat
  rcases hi with ⟨idx, rfl⟩ | ⟨t, rfl⟩ | ⟨idx, rfl⟩
  · simp only [P_hp] at hh
    split at hh
    · next hlt =>
      cases hh
      obtain ⟨C, T, N, g1, g2, g3, g4⟩ := hok hlt
      obtain ⟨c1, c2, c3, c4, c5⟩ := hcl _ C T N g1
      simp only [P_add] at hrc hrs
      refine va_new (D := D) (cl := cl) (fs := Z.1 r2) hx hb hts c1 (Z.2.2 r2) c2 hown (hts _ g2) (hts _ g3) (hts _ g4) hW.2.1 hW.1 hW.2.2.1 hW.2.2.2.1 hW.2.2.2.2.1 g1 (fun j hj => (c5 j hj).1) (by omega) (by rw [← c4]; omega) hdg (fun q H1 hP hD hS => ?_)
      have hW1 := hW.push (tys1 := []) (c := .inr (r2, Z.1 r2)) (by rw [List.append_nil]; exact hW.2.1) hP hD hS ⟨_, rfl, P_defs_ok fun j hj => (c5 j (by rw [← c4]; exact hj)).2⟩
      exact k H1 _ _ _ _ _ (P_sub_push ro ws _) hW1 (by simp only [P_add]; omega) (by simp only [P_add]; omega) ⟨hW.new_v q _, hst.mono (P_sub_push ro ws _)⟩
    · cases hh
  · simp only [P_hp] at hh
    split at hh
    · next n r =>
      split at hh
      · next hlt =>
        simp only [P_new] at hh
        split at hh
        · cases hh
        · next hn =>
          cases hh
          obtain ⟨w0, ws0, rfl, h0, h0'⟩ := P_vs_cons hst
          cases h0
          obtain ⟨g1, g2⟩ := hok
          simp only [P_add] at hrc hrs
          have hn0 : ¬ n < 0 := fun q => hn (Or.inl q)
          have hn1 : n.toNatClampNeg ≤ 65536 := Nat.le_of_not_lt fun q => hn (Or.inr q)
          have kk : ∀ (g : (Nat → Int32) ⊕ (Nat → Int64) ⊕ (Nat → UInt32) ⊕ (Nat → UInt64) ⊕ (Nat → Option Nat)), (∀ cA : ClassId, P_c aty (tys ++ [(cA, aty r2)]) (P_rho ro ws) (P_row r2 n.toNatClampNeg) (.inl (cA, n.toNatClampNeg, g))) → ∀ (q : Nat) (cA : ClassId) (H1 : Heap), va_K D cl (tys ++ [(cA, aty r2)]) s → va_P D cl (ws ++ [(q, .inl (cA, n.toNatClampNeg, g))]) H1 → va_D A (ws ++ [(q, .inl (cA, n.toNatClampNeg, g))]) → va_S A s.heap H1 locs → W p l e R s m args below meth c H1 locs (cells + 1) (slots + n.toNatClampNeg) Q (F0 m (pc + 2) ls (.ref q :: ws0)) := by
            intro g hg q cA H1 hK hP hD hS
            have hW1 := hW.push (c := P_row r2 n.toNatClampNeg) hK hP hD hS (hg cA)
            exact k H1 _ _ _ _ _ (P_sub_push ro ws _) hW1 (by simp only [P_add]; omega) (by simp only [P_add]; omega) ⟨hW.new_v q _, h0'.mono (P_sub_push ro ws _)⟩
          have hcb : componentBytes (aty r2) ≤ 8 := by
            rcases (by omega : r2 = 0 ∨ r2 = 1 ∨ r2 = 2 ∨ r2 = 3) with e | e | e | e <;> rw [e] <;> first | (rw [a0]; decide) | (rw [a1]; decide) | (rw [a2]; decide) | (rw [a3]; decide)
          have hby : n.toNatClampNeg * componentBytes (aty r2) ≤ 536870912 := Nat.le_trans (Nat.mul_le_mul hn1 hcb) (by decide)
          rcases (by omega : r2 = 0 ∨ r2 = 1 ∨ r2 = 2 ∨ r2 = 3) with e | e | e | e
          · subst e
            exact va_newa (atype := t) (D := D) (cl := cl) (a0 := (n.toNatClampNeg, .inl (fun _ => 0))) hx hb (by rw [g1]; exact hts _ g2) g1 hW.2.1 hW.1 hW.2.2.1 hW.2.2.2.1 hW.2.2.2.2.1 (fun cA => by rw [a0]; rfl) hn0 rfl hby (by omega) (by omega) hdg (fun q cA H1 => kk _ (fun cA => ⟨cA, tys.length, _, by simp, rfl, rfl⟩) q cA H1)
          · subst e
            exact va_newa (atype := t) (D := D) (cl := cl) (a0 := (n.toNatClampNeg, .inr (.inl (fun _ => 0)))) hx hb (by rw [g1]; exact hts _ g2) g1 hW.2.1 hW.1 hW.2.2.1 hW.2.2.2.1 hW.2.2.2.2.1 (fun cA => by rw [a1]; rfl) hn0 rfl hby (by omega) (by omega) hdg (fun q cA H1 => kk _ (fun cA => ⟨cA, tys.length, _, by simp, rfl, rfl⟩) q cA H1)
          · subst e
            exact va_newa (atype := t) (D := D) (cl := cl) (a0 := (n.toNatClampNeg, .inr (.inr (.inr (.inl (fun _ => 0)))))) hx hb (by rw [g1]; exact hts _ g2) g1 hW.2.1 hW.1 hW.2.2.1 hW.2.2.2.1 hW.2.2.2.2.1 (fun cA => by rw [a2]; rfl) hn0 rfl hby (by omega) (by omega) hdg (fun q cA H1 => kk _ (fun cA => ⟨cA, tys.length, _, by simp, rfl, rfl⟩) q cA H1)
          · subst e
            exact va_newa (atype := t) (D := D) (cl := cl) (a0 := (n.toNatClampNeg, .inl (fun _ => 0))) hx hb (by rw [g1]; exact hts _ g2) g1 hW.2.1 hW.1 hW.2.2.1 hW.2.2.2.1 hW.2.2.2.2.1 (fun cA => by rw [a3]; rfl) hn0 rfl hby (by omega) (by omega) hdg (fun q cA H1 => kk _ (fun cA => ⟨cA, tys.length, _, by simp, rfl, rfl⟩) q cA H1)
      · cases hh
    · cases hh
  · simp only [P_hp] at hh
    split at hh
    · next n r =>
      split at hh
      · next hlt =>
        simp only [P_new] at hh
        split at hh
        · cases hh
        · next hn =>
          cases hh
          obtain ⟨w0, ws0, rfl, h0, h0'⟩ := P_vs_cons hst
          cases h0
          simp only [P_add] at hrc hrs
          have hn0 : ¬ n < 0 := fun q => hn (Or.inl q)
          have hn1 : n.toNatClampNeg ≤ 65536 := Nat.le_of_not_lt fun q => hn (Or.inr q)
          have hby : n.toNatClampNeg * 4 ≤ 536870912 := Nat.le_trans (Nat.mul_le_mul_right 4 hn1) (by decide)
          have hrow : P_row r2 n.toNatClampNeg = .inl (r2, n.toNatClampNeg, .inr (.inr (.inr (.inr (fun _ => none))))) := by
            obtain ⟨j, rfl⟩ : ∃ j, r2 = j + 4 := ⟨r2 - 4, by omega⟩
            rfl
          have kk : ∀ (q : Nat) (cA : ClassId) (H1 : Heap), va_K D cl (tys ++ [(cA, aty r2)]) s → va_P D cl (ws ++ [(q, .inl (cA, n.toNatClampNeg, .inr (.inr (.inr (.inr (fun _ => none))))))]) H1 → va_D A (ws ++ [(q, .inl (cA, n.toNatClampNeg, .inr (.inr (.inr (.inr (fun _ => none))))))]) → va_S A s.heap H1 locs → W p l e R s m args below meth c H1 locs (cells + 1) (slots + n.toNatClampNeg) Q (F0 m (pc + 3) ls (.ref q :: ws0)) := by
            intro q cA H1 hK hP hD hS
            have hW1 := hW.push (c := P_row r2 n.toNatClampNeg) hK hP hD hS (by rw [hrow]; exact ⟨cA, tys.length, _, by simp, rfl, _, rfl, fun j => Or.inl ⟨rfl, rfl⟩⟩)
            exact k H1 _ _ _ _ _ (P_sub_push ro ws _) hW1 (by simp only [P_add]; omega) (by simp only [P_add]; omega) ⟨hW.new_v q _, h0'.mono (P_sub_push ro ws _)⟩
          rcases hok with ⟨C, g1, g2, g3⟩ | ⟨t, g1, g2, g3⟩
          · exact va_newq (D := D) (cl := cl) hx hb hown (hts _ g2) (va_AO.of (hts _ g3)) hW.2.1 hW.1 hW.2.2.1 hW.2.2.2.1 hW.2.2.2.2.1 hn0 rfl hby (by omega) (by omega) hdg (fun q cA H1 hK => kk q cA H1 (by rw [g1]; exact hK))
          · exact P_newr (D := D) (cl := cl) hx hb hown (hts _ g2) (hts _ g3) hW.2.1 hW.1 hW.2.2.1 hW.2.2.2.1 hW.2.2.2.2.1 hn0 rfl hby (by omega) (by omega) hdg (fun q cA H1 hK => kk q cA H1 (by rw [g1]; exact hK))
      · cases hh
    · cases hh
end NW
end
section
/-! THE TIE, 8: entries, the JDK's own, ends -/
theorem P_cs_ok {ρ : List Nat} : ∀ {vs ws : List Value}, P_vs ρ vs ws → (ws.map fun v => v.category).sum = P_cs vs
  | [], [], _ => rfl
  | v :: vs, w :: ws, h => by
    rw [List.map_cons, List.sum_cons, P_cs_ok h.2, h.1.cat]
    cases v <;> simp only [P_cs, Value.category] <;> omega
  | [], _ :: _, h => h.elim
  | _ :: _, [], h => h.elim
theorem P_vs.take {ρ : List Nat} : ∀ {n : Nat} {vs ws : List Value}, P_vs ρ vs ws → P_vs ρ (vs.take n) (ws.take n)
  | 0, _, _, _ => trivial
  | _ + 1, [], [], _ => trivial
  | n + 1, _ :: _, _ :: _, h => ⟨h.1, P_vs.take (n := n) h.2⟩
  | _ + 1, [], _ :: _, h => h.elim
  | _ + 1, _ :: _, [], h => h.elim
theorem P_vs.dropn {ρ : List Nat} : ∀ {n : Nat} {vs ws : List Value}, P_vs ρ vs ws → P_vs ρ (vs.drop n) (ws.drop n)
  | 0, _, _, h => h
  | _ + 1, [], [], _ => trivial
  | n + 1, _ :: _, _ :: _, h => P_vs.dropn (n := n) h.2
  | _ + 1, [], _ :: _, h => h.elim
  | _ + 1, _ :: _, [], h => h.elim
theorem P_vs.app {ρ : List Nat} : ∀ {v1 w1 v2 w2 : List Value}, P_vs ρ v1 w1 → P_vs ρ v2 w2 → P_vs ρ (v1 ++ v2) (w1 ++ w2)
  | [], [], _, _, _, h => h
  | _ :: _, _ :: _, _, _, h, h2 => ⟨h.1, P_vs.app h.2 h2⟩
  | [], _ :: _, _, _, h, _ => h.elim
  | _ :: _, [], _, _, h, _ => h.elim
theorem P_vs.rev {ρ : List Nat} : ∀ {v1 w1 : List Value}, P_vs ρ v1 w1 → P_vs ρ v1.reverse w1.reverse
  | [], [], _ => trivial
  | v :: vs, w :: ws, h => by
    rw [List.reverse_cons, List.reverse_cons]
    exact (P_vs.rev h.2).app ⟨h.1, trivial⟩
  | [], _ :: _, h => h.elim
  | _ :: _, [], h => h.elim
/-- how the arguments lie in the locals -/
theorem P_args_at {ρ : List Nat} : ∀ {as as' : List Value} (_ : P_vs ρ as as') (b k : Nat) (v : Value), (P_args as)[k]? = some v → v = P_un ∨ ∃ v', (b + k, v') ∈ lv_args b as' ∧ P_v ρ v v'
  | [], [], _, b, k, v, h => by simp [P_args] at h
  | a :: as, w :: ws, hv, b, k, v, h => by
    by_cases h2 : a.category = 2
    · have e : P_args (a :: as) = a :: P_un :: P_args as := by cases a <;> simp [Value.category] at h2 <;> rfl
      have e2 : lv_args b (w :: ws) = (b, w) :: lv_args (b + 2) ws := by
        have hc := hv.1.cat
        rw [h2] at hc
        simp [lv_args, hc]
      rw [e] at h
      rw [e2]
      match k with
      | 0 => cases h; exact Or.inr ⟨w, List.mem_cons_self, hv.1⟩
      | 1 => cases h; exact Or.inl rfl
      | k + 2 =>
        rcases P_args_at hv.2 (b + 2) k v (by simpa using h) with q | ⟨v', h3, h4⟩
        · exact Or.inl q
        · exact Or.inr ⟨v', List.mem_cons_of_mem _ (by rwa [show b + (k + 2) = b + 2 + k by omega]), h4⟩
    · have h1 : a.category = 1 := by rcases lv_cat a with q | q; exact q; exact absurd q h2
      have e : P_args (a :: as) = a :: P_args as := by cases a <;> simp [Value.category] at h2 <;> rfl
      have e2 : lv_args b (w :: ws) = (b, w) :: lv_args (b + 1) ws := by
        have hc := hv.1.cat
        rw [h1] at hc
        simp [lv_args, hc]
      rw [e] at h
      rw [e2]
      match k with
      | 0 => cases h; exact Or.inr ⟨w, List.mem_cons_self, hv.1⟩
      | k + 1 =>
        rcases P_args_at hv.2 (b + 1) k v (by simpa using h) with q | ⟨v', h3, h4⟩
        · exact Or.inl q
        · exact Or.inr ⟨v', List.mem_cons_of_mem _ (by rwa [show b + (k + 1) = b + 1 + k by omega]), h4⟩
  | [], _ :: _, hv, _, _, _, _ => hv.elim
  | _ :: _, [], hv, _, _, _, _ => hv.elim
theorem P_fit_len : ∀ (n : Nat) (L : List Value), (P_fit n L).length = n
  | 0, _ => rfl
  | n + 1, [] => congrArg (· + 1) (P_fit_len n [])
  | n + 1, _ :: vs => congrArg (· + 1) (P_fit_len n vs)
theorem P_fit_at : ∀ (n : Nat) (L : List Value) (k : Nat) (v : Value), (P_fit n L)[k]? = some v → v = P_un ∨ L[k]? = some v
  | 0, _, k, v, h => by simp [P_fit] at h
  | n + 1, [], 0, v, h => by cases h; exact Or.inl rfl
  | n + 1, [], k + 1, v, h => P_fit_at n [] k v (by simpa [P_fit] using h)
  | n + 1, x :: vs, 0, v, h => by cases h; exact Or.inr rfl
  | n + 1, x :: vs, k + 1, v, h => by simpa using P_fit_at n vs k v (by simpa [P_fit] using h)
theorem P_args_len {ρ : List Nat} : ∀ {as as' : List Value}, P_vs ρ as as' → (lg_sl as').length = (P_args as).length
  | [], [], _ => rfl
  | a :: as, w :: ws, hv => by
    have ih := P_args_len hv.2
    have hc := hv.1.cat
    by_cases h2 : a.category = 2
    · have e : P_args (a :: as) = a :: P_un :: P_args as := by cases a <;> simp [Value.category] at h2 <;> rfl
      rw [h2] at hc
      rw [e]
      simp only [lg_sl, List.flatMap_cons, hc, if_true, List.length_append, List.length_cons, List.length_nil]
      have : (List.flatMap (fun v : Value => if v.category = 2 then [Slot.val v, Slot.second] else [Slot.val v]) ws).length = (P_args as).length := ih
      omega
    · have e : P_args (a :: as) = a :: P_args as := by cases a <;> simp [Value.category] at h2 <;> rfl
      have h2' : ¬ w.category = 2 := by rw [hc]; exact h2
      rw [e]
      simp only [lg_sl, List.flatMap_cons, if_neg h2', List.length_append, List.length_cons, List.length_nil]
      have : (List.flatMap (fun v : Value => if v.category = 2 then [Slot.val v, Slot.second] else [Slot.val v]) ws).length = (P_args as).length := ih
      omega
  | [], _ :: _, hv => hv.elim
  | _ :: _, [], hv => hv.elim
theorem P_entry {ρ : List Nat} {as as' : List Value} {n : Nat} (hv : P_vs ρ as as') (hn : (P_args as).length ≤ n) : P_L ρ (P_fit n (P_args as)) ((lg_sl as' ++ List.replicate (n - (lg_sl as').length) Slot.unset).toArray) n := by
  refine ⟨P_fit_len _ _, lv_args 0 as', lv_entry as' (by rw [P_args_len hv]; exact hn), fun k v hk => ?_⟩
  rcases P_fit_at _ _ _ _ hk with q | q
  · exact Or.inl q
  · rcases P_args_at hv 0 k v q with q2 | ⟨v', h1, h2⟩
    · exact Or.inl q2
    · exact Or.inr ⟨v', by rwa [Nat.zero_add] at h1, h2⟩
section EN
variable {p : Program} {l : Launch} {e : Env} {R : Room} {s : State} {m : MethodId} {args : Array Value} {below : List Frame} {meth : Method} {c : Code} {H : Heap} {locs : List Loc} {cells slots : Nat} {Q : State → Prop} {cc : ByteArray} {pc nL : Nat} {ls : Array Slot} {rest : List Value} {L L1 st st1 st' : List Value} {ρ : List Nat}
variable {Tb : List Jvm.Cond} {own : String} {ini : Bool} {r1 : Int} {r2 : Nat}
/-- what the tables say of the calls of 9000, 9001, 9002 -/
def P_jok (Tb : List Jvm.Cond) (own : String) (i : Instr) (r2 : Nat) : Prop := match i with
  | .invokespecial idx => r2 = 9000 → Jvm.Cond.methodLink own idx Lib.objectInit ∈ Tb ∧ Jvm.Cond.instanceMethod Lib.objectInit ∈ Tb ∧ Jvm.Cond.code Lib.objectInit ⟨#[0xb1]⟩ 1 none ∈ Tb
  | .invokestatic idx => (r2 = 9001 → Jvm.Cond.methodLink own idx Lib.Math.max.name ∈ Tb ∧ Jvm.Cond.static Lib.Math.max.name ∈ Tb ∧ Jvm.Cond.initialized "java/lang/Math" ∈ Tb ∧ Jvm.Cond.code Lib.Math.max.name Lib.Math.max.code 2 (some .int) ∈ Tb) ∧ (r2 = 9002 → Jvm.Cond.methodLink own idx Lib.Math.min.name ∈ Tb ∧ Jvm.Cond.static Lib.Math.min.name ∈ Tb ∧ Jvm.Cond.initialized "java/lang/Math" ∈ Tb ∧ Jvm.Cond.code Lib.Math.min.name Lib.Math.min.code 2 (some .int) ∈ Tb)
  | _ => True
set_option maxHeartbeats 400000 in
theorem P_jdk_ok (hC : P_Cx Tb own ini cc nL p s m args meth c) (hL : P_L ρ L ls nL) {i : Instr} (hok : P_jok Tb own i r2) (hdg : decode cc pc = .ok (i, 3)) (hst : P_vs ρ st st') (hh : P_jdk i r2 st = some st1) (hf : 1 ≤ R.frames) (hl : 100 ≤ R.locals) (hrc : cells ≤ R.cells) (hrs : slots ≤ R.slots)
    (k : ∀ ws' : List Value, P_vs ρ st1 ws' → W p l e R s m args below meth c H locs cells slots Q (F0 m (pc + 3) ls ws')) : W p l e R s m args below meth c H locs cells slots Q (F0 m pc ls st') := by
  obtain ⟨hx, hb, hml, hown, hts, -, -⟩ := hC
  have hsz : ls.size = c.maxLocals := by
    obtain ⟨-, l0, h1, -⟩ := hL
    rw [hml]; exact h1.1
  unfold P_jdk at hh
  split at hh
  · next idx =>
    split at hh
    · next hr =>
      split at hh
      · next a r =>
        split at hh
        · next hcs =>
          cases hh
          obtain ⟨w, ws, rfl, ⟨q, h2, rfl⟩, h3⟩ := P_vs_cons hst
          obtain ⟨g1, g2, g3⟩ := hok hr
          have hcat := P_cs_ok h3
          exact W.objInit (g := F0 m pc ls (.ref q :: ws)) (a := q) (rest := ws) (idx := idx) hx hb hown (hts _ g1) (hts _ g2) (hts _ g3) rfl hsz rfl hdg hf (by show 2 * 0 + (ws.map fun v => v.category).sum + 12 ≤ R.locals; omega) (k _ h3)
        · cases hh
      · cases hh
    · cases hh
  · next idx =>
    split at hh
    · next y x r =>
      split at hh
      · next hcs =>
        obtain ⟨w, ws, rfl, h2, h3⟩ := P_vs_cons hst
        obtain ⟨w2, ws2, rfl, h4, h5⟩ := P_vs_cons h3
        cases h2; cases h4
        have hcat := P_cs_ok h5
        split at hh
        · next hr =>
          cases hh
          obtain ⟨g1, g2, g3, g4⟩ := hok.1 hr
          exact va_mmax hx hb hsz.symm hown (hts _ g1) (hts _ g2) (hts _ g3) (hts _ g4) hf (by omega) hrc hrs hdg (k _ ⟨rfl, h5⟩)
        · split at hh
          · next hr =>
            cases hh
            obtain ⟨g1, g2, g3, g4⟩ := hok.2 hr
            exact va_mmin hx hb hsz.symm hown (hts _ g1) (hts _ g2) (hts _ g3) (hts _ g4) hf (by omega) hrc hrs hdg (k _ ⟨rfl, h5⟩)
          · cases hh
      · cases hh
    · cases hh
  · cases hh
/-- a pure result and the machine's -/
def P_vo (ρ : List Nat) (v v' : Option Value) : Prop := match v, v' with
  | none, none => True
  | some a, some b => P_v ρ a b
  | _, _ => False
set_option maxHeartbeats 4000000 in
theorem P_ret_ok {Qc : Array Value → State → Outcome → State → Prop} {free : Addr → Prop} (hx : p.tables.exec = Jvm.exec) (hb : c.code = cc) {rt : Option FieldType} (hr : meth.sig.returnType = rt) (hlocks : meth.locks = false) {i : Instr} {v : Option Value} (hdg : decode cc pc = .ok (i, 1)) (hst : P_vs ρ st st') (hh : P_ret rt i st = some v)
    (hq : ∀ (v' : Option Value) (t : State), P_vo ρ v v' → t.heap = H → s.WarmedH t.vm → Qc args s (.returned v') t) (hf : ∀ q ∈ locs, free q.base) : W p l e R s m args below meth c H locs cells slots (MQ below Qc args s cells slots free) (F0 m pc ls st') := by
  unfold P_ret at hh
  split at hh
  · split at hh
    · cases hh
      rw [P_vs_nil hst]
      exact W.vret hx hb hr (fun t h1 h2 => hq none t trivial h1 h2) hf hdg
    · cases hh
  · next t =>
    split at hh
    · next x =>
      split at hh
      · next hfit =>
        cases hh
        obtain ⟨w, ws, rfl, h2, h3⟩ := P_vs_cons hst
        cases P_vs_nil h3
        cases h2
        exact W.zret hx hb hr (P_fits_ok (ρ := ρ) hfit rfl).1 (fun t h1 h2 => hq (some (.int x)) t rfl h1 h2) hf hdg
      · cases hh
    · cases hh
  · split at hh
    · next x =>
      cases hh
      obtain ⟨w, ws, rfl, h2, h3⟩ := P_vs_cons hst
      cases P_vs_nil h3
      cases h2
      exact W.lret hx hb hr (fun t h1 h2 => hq (some (.long x)) t rfl h1 h2) hf hdg
    · cases hh
  · split at hh
    · next x =>
      cases hh
      obtain ⟨w, ws, rfl, h2, h3⟩ := P_vs_cons hst
      cases P_vs_nil h3
      cases h2
      exact W.dret hx hb hr (fun t h1 h2 => hq (some (.double x)) t rfl h1 h2) hf hdg
    · cases hh
  · next t =>
    have hrt : ∀ v : Value, P_fits t v = true → (v = .null ∨ ∃ a, v = .ref a) → (∃ n, t = .object n) ∨ ∃ t', t = .array t' := by
      intro v h1 h2
      cases t <;> first | (exact Or.inl ⟨_, rfl⟩) | (exact Or.inr ⟨_, rfl⟩) | (rcases h2 with rfl | ⟨a, rfl⟩ <;> simp [P_fits, fits] at h1)
    split at hh
    · next x =>
      split at hh
      · next hfit =>
        cases hh
        obtain ⟨w, ws, rfl, h2, h3⟩ := P_vs_cons hst
        cases P_vs_nil h3
        have h4 : P_v ρ (.ref x) w := h2
        obtain ⟨q, hq2, rfl⟩ := h2
        exact W.aret hx hb hr (hrt _ hfit (Or.inr ⟨_, rfl⟩)) (Or.inr ⟨_, rfl⟩) (fun t h1 h2 => hq (some (.ref q)) t h4 h1 h2) hf hdg
      · cases hh
    · split at hh
      · next hfit =>
        cases hh
        obtain ⟨w, ws, rfl, h2, h3⟩ := P_vs_cons hst
        cases P_vs_nil h3
        cases h2
        exact W.aret hx hb hr (hrt _ hfit (Or.inl rfl)) (Or.inl rfl) (fun t h1 h2 => hq (some .null) t rfl h1 h2) hf hdg
      · cases hh
    · cases hh
  · cases hh
end EN
end
section
/-! THE TIE, 9: contracts and calls -/
/-- the methods' names, code, tables of handlers, whether one is a constructor; the thrown ones' names -/
abbrev P_N : Type := (Nat → MethodName) × (Nat → ByteArray) × (Nat → List (Nat × Nat × Nat × Nat)) × (Nat → Bool) × (Nat → String)
def P_cw (N : P_N) (y mx : Nat) (rt : Option FieldType) : Jvm.Cond := if N.2.2.1 y = [] then .code (N.1 y) (N.2.1 y) mx rt else .codeWith (N.1 y) (N.2.1 y) mx rt (N.2.2.1 y)
def P_rm (d mc ms : Nat) : Room := { frames := d + 8, cells := mc, slots := ms, locals := 60 * d + 200 }
/-- a word that stays, but is not the kit's good word -/
def P_wm (w : Jvm.Cond) : Prop := (∀ (a a' : Array Value) (s U : State), s.vm = U.vm → w.before a s = true → w.before a' U = true) ∧ ∀ (a a' : Array Value) (s U : State), s.WarmedH U.vm → w.before a s = true → w.before a' U = true
theorem P_wm_mn {a : String} {i : Nat} {x : MethodName} {h : String} : P_wm (.methodLinkNest a i x h) := ⟨fun _ _ _ _ e q => va_Nw.use rfl (va_Nw.same rfl e (va_Nw.of rfl q)), fun _ _ _ _ e q => va_Nw.use rfl (va_Nw.warmM e (va_Nw.of rfl q))⟩
theorem P_wm_fn {a b n d h : String} {i : Nat} : P_wm (.fieldLinkNest a i b n d h) := ⟨fun _ _ _ _ e q => va_Nw.use rfl (va_Nw.same rfl e (va_Nw.of rfl q)), fun _ _ _ _ e q => va_Nw.use rfl (va_Nw.warmF e (va_Nw.of rfl q))⟩
theorem P_wm_de {x : MethodName} : P_wm (.declares x) := ⟨fun _ _ _ _ e q => va_Nw.use rfl (va_Nw.same rfl e (va_Nw.of rfl q)), fun _ _ _ _ e q => va_Nw.use rfl (va_Nw.warmD e (va_Nw.of rfl q))⟩
theorem P_wm_ca {C T : String} : P_wm (.castable C T) := ⟨fun _ _ _ _ e q => va_Nw.use rfl (va_Nw.same rfl e (va_Nw.of rfl q)), fun _ _ _ _ e q => va_Nw.use rfl (va_Nw.warmC e (va_Nw.of rfl q))⟩
theorem P_wm_ao {C : String} : P_wm (.arrayOver (.object C)) := ⟨fun _ _ _ _ e q => va_AO.use (va_AO.moved (by rw [e]; exact Vm.Alike.refl _) (va_AO.of q)), fun _ _ _ _ e q => va_AO.use (va_AO.moved e.alike (va_AO.of q))⟩
theorem P_ar_moved {t : FieldType} {a a' : Array Value} {u U : State} (hvm : u.vm.Alike U.vm) (h : (Jvm.Cond.arrayOver (.array t)).before a u = true) : (Jvm.Cond.arrayOver (.array t)).before a' U = true := by
  obtain ⟨comp, c, k, h1, h2, h3, h4, h5⟩ := arrayOverA_spec h
  obtain ⟨k', hk', he⟩ := hvm.2.2 _ _ h3
  have hi : (U.vm.classes.findIdx? fun (x : Class) => match x.kind with | .array component _ => component == comp | _ => false) = some c := by
    rw [hvm.findIdx?_eqK _ (fun _ => rfl)]
    exact h2
  have hkind : k'.kind = .array comp (.array t) := by rw [he]; exact h4
  have h1' : U.vm.findClass (FieldType.array t).toString = some comp := by rw [hvm.findClass]; exact h1
  have h5' : U.vm.findClass ("[" ++ (FieldType.array t).toString) = some c := by rw [hvm.findClass]; exact h5
  unfold Jvm.Cond.before Jvm.Cond.holds
  simp only [Jvm.Cond.value]
  rw [h1', Option.bind_some]
  refine (congrArg (fun o : Option Nat => (o.bind (fun c => (U.vm.classes[c]?).map fun (k : Class) => match k.kind with | .array _ ty => decide (ty = FieldType.array t) && decide (U.vm.findClass ("[" ++ (FieldType.array t).toString) = some c) | _ => false) == some true)) hi).trans ?_
  simp [hk', hkind, h5']
theorem P_wm_ar {t : FieldType} : P_wm (.arrayOver (.array t)) := ⟨fun _ _ _ _ e q => P_ar_moved (by rw [e]; exact Vm.Alike.refl _) q, fun _ _ _ _ e q => P_ar_moved e.alike q⟩
/-- what throwing and catching ask of a start, and the words that are carried beside the contracts' own -/
def P_Ex (nc : List (String × String)) (tx : List (String × Nat × String)) (T2 : List Jvm.Cond) (A : Nat → Prop) (U : State) (H : Heap) : Prop := (∀ w ∈ T2, w.before #[] U = true) ∧ (tx = [] ∨ (vx_Zq Bundle.tN "UNASSIGNED_STACK" Bundle.steD A U H ∧ vx_Zq Bundle.tN "SUPPRESSED_SENTINEL" Bundle.listD A U H)) ∧ (∀ x ∈ nc, va_Nc x.1 x.2 U) ∧ ∀ x ∈ tx, ∃ sa, vk_R x.1 x.2.1 x.2.2 sa U
/-- the world behind a call: its cells, and the rows that are never written -/
def P_Wc (cl : List vw_C) (aty : Nat → FieldType) (nro : Nat) (D : va_G) (A : Nat → Prop) (U : State) (H : Heap) (ro : List Nat) (ws : va_W) (tys : List (ClassId × FieldType)) (h : List P_E) : Prop :=
  va_P D cl ws H ∧ va_K D cl tys U ∧ va_D A ws ∧ h.length = nro + ws.length ∧
  (∀ (i q : Nat), ro[i]? = some q → ∃ (n : Nat) (f : Nat → Int32), h[i]? = some ((.inl (0, n, .inl f) : P_E)) ∧ va_T .int q n (fun j => .int (f j)) (fun _ => False) U H) ∧
  (∀ (i : Nat) (c : P_E) (q : Nat) (e : va_E), h[nro + i]? = some c → ws[i]? = some (q, e) → P_c aty tys (P_rho ro ws) c e)
section CT
variable (cl : List vw_C) (aty : Nat → FieldType) (nro : Nat) (stat : P_T) (nc : List (String × String)) (tx : List (String × Nat × String)) (T2 : List Jvm.Cond) (N : P_N)
def P_Pc (D : va_G) (as' : List Value) (ro : List Nat) (ws : va_W) (tys : List (ClassId × FieldType)) (h : List P_E) (sz : Nat) : Array Value → State → Prop := va_Pc as' (fun U => U.heap.size = sz ∧ P_Wd cl aty nro stat D (va_A ws sz) U U.heap [] ro ws tys h ∧ P_Ex nc tx T2 (va_A ws sz) U U.heap)
def P_Qc (D : va_G) (ro : List Nat) (ws : va_W) (sz : Nat) (r : P_R) (h1 : List P_E) : Array Value → State → Outcome → State → Prop := fun _ st o t => (∃ (v v' : Option Value) (ws' : va_W) (tys' : List (ClassId × FieldType)), r = .inl v ∧ o = .returned v' ∧ P_vo (P_rho ro ws') v v' ∧ P_sub (P_rho ro ws) (P_rho ro ws') ∧ P_Wc cl aty nro D (va_A ws sz) t t.heap ro ws' tys' h1) ∧ va_F (va_A ws sz) st t
def P_XC (D : va_G) (ro : List Nat) (ws : va_W) (sz : Nat) (r : P_R) (h1 : List P_E) : String → State → State → Prop := fun E st t => (∃ (k : Nat) (ws' : va_W) (tys' : List (ClassId × FieldType)), r = .inr k ∧ k < 3 ∧ E = N.2.2.2.2 k ∧ P_sub (P_rho ro ws) (P_rho ro ws') ∧ P_Wc cl aty nro D (va_A ws sz) t t.heap ro ws' tys' h1) ∧ va_F (va_A ws sz) st t
/-- a call's contract: from cells h the arguments as come to r and the cells h1 -/
def P_Ct (Tg : List Jvm.Cond) (l : Launch) (y d mx : Nat) (rt : Option FieldType) (as : List Value) (h : P_H) (r : P_R) (h1 : P_H) : Prop :=
  ∀ (D : va_G) (ro : List Nat) (ws : va_W) (tys : List (ClassId × FieldType)) (sz : Nat) (as' : List Value), P_vs (P_rho ro ws) as as' →
    vx_Met l (N.1 y) (P_cw N y mx rt :: Tg) (P_rm d (h1.2.1 - h.2.1) (h1.2.2 - h.2.2)) (P_Pc cl aty nro stat nc tx T2 D as' ro ws tys h.1 sz) (P_Qc cl aty nro D ro ws sz r h1.1) (P_XC cl aty nro N D ro ws sz r h1.1) (h1.2.1 - h.2.1) (h1.2.2 - h.2.2) (va_A ws sz)
/-- what the tables say of a call's place -/
def P_cok (Tb : List Jvm.Cond) (V : Nat → Nat → Option Nat) (own : String) (i : Instr) (r1 : Int) (r2 : Nat) : Prop := match i with
  | .invokestatic idx => r2 < 9000 → (∀ sig, parseMethodDescriptor (N.1 r2).desc = some sig → r1.toNat = sig.parameters.length) ∧ Jvm.Cond.initialized (N.1 r2).cls ∈ Tb ∧ Jvm.Cond.static (N.1 r2) ∈ Tb ∧ (Jvm.Cond.methodLink own idx (N.1 r2) ∈ Tb ∨ (N.2.2.1 r2 = [] ∧ ∃ host, Jvm.Cond.methodLinkNest own idx (N.1 r2) host ∈ Tb))
  | .invokespecial idx => r2 < 9000 → (∀ sig, parseMethodDescriptor (N.1 r2).desc = some sig → r1.toNat = sig.parameters.length) ∧ Jvm.Cond.initialized (N.1 r2).cls ∈ Tb ∧ Jvm.Cond.instanceMethod (N.1 r2) ∈ Tb ∧ (N.1 r2).name = "<init>" ∧ N.2.2.1 r2 = [] ∧ (Jvm.Cond.methodLink own idx (N.1 r2) ∈ Tb ∨ ∃ host, Jvm.Cond.methodLinkNest own idx (N.1 r2) host ∈ Tb)
  | .invokevirtual idx => ∀ ci y, V r2 ci = some y → ∃ r, cl[ci]? = some r ∧ N.2.2.1 y = [] ∧ Jvm.Cond.initialized (N.1 y).cls ∈ Tb ∧ Jvm.Cond.instanceMethod (N.1 y) ∈ Tb ∧
      (((∀ sig, parseMethodDescriptor (N.1 y).desc = some sig → r1.toNat = sig.parameters.length) ∧ Jvm.Cond.selects r.1 (N.1 y) (N.1 y) ∈ Tb ∧ (Jvm.Cond.methodLink own idx (N.1 y) ∈ Tb ∨ ∃ host, Jvm.Cond.methodLinkNest own idx (N.1 y) host ∈ Tb)) ∨
       ∃ (x : MethodName) (owner : String), (∀ sig, parseMethodDescriptor x.desc = some sig → r1.toNat = sig.parameters.length) ∧ (owner ≠ "java/lang/invoke/MethodHandle" ∧ owner ≠ "java/lang/invoke/VarHandle") ∧ Jvm.Cond.methodLink own idx x ∈ Tb ∧ Jvm.Cond.sameMethod x.cls owner x.name x.desc ∈ Tb ∧ Jvm.Cond.selects r.1 x (N.1 y) ∈ Tb ∧ ((Jvm.Cond.instanceMethod ⟨owner, x.name, x.desc⟩ ∈ Tb ∧ ∃ b m r, Jvm.Cond.code ⟨owner, x.name, x.desc⟩ b m r ∈ Tb) ∨ Jvm.Cond.declares ⟨owner, x.name, x.desc⟩ ∈ Tb))
  | _ => True
/-- what the tables say of a method -/
def P_mok (Tg : List Jvm.Cond) (y mx : Nat) (rt : Option FieldType) : Prop := plainName (N.1 y).cls = true ∧ ((N.1 y).cls ≠ "java/lang/invoke/MethodHandle" ∧ (N.1 y).cls ≠ "java/lang/invoke/VarHandle") ∧ P_cw N y mx rt ∈ Tg ∧ mx ≤ 40
end CT
theorem P_free {A : Nat → Prop} {s : State} {H : Heap} {locs : List Loc} {ws : va_W} (hD : va_D A ws) (hS : va_S A s.heap H locs) (hA : ∀ q, s.heap.size ≤ q → A q) : ∀ q, va_A ws H.size q → A q := by
  rintro q (⟨k, e, hk⟩ | hq)
  · exact hD.2 k _ hk
  · exact hA q (Nat.le_trans hS.1 hq)
section CL
variable {p : Program} {l : Launch} {e : Env} {R : Room} {s : State} {m : MethodId} {args : Array Value} {below : List Frame} {meth : Method} {c : Code} {H : Heap} {locs : List Loc} {cells slots : Nat} {Q : State → Prop} {cc : ByteArray} {pc nL : Nat} {ls : Array Slot} {rest : List Value} {L L1 st st1 st' : List Value}
variable {cl : List vw_C} {aty : Nat → FieldType} {nro : Nat} {stat : P_T} {nc : List (String × String)} {tx : List (String × Nat × String)} {T2 Tg : List Jvm.Cond} {N : P_N} {D : va_G} {A : Nat → Prop} {ro : List Nat} {ws : va_W} {tys : List (ClassId × FieldType)} {Z : P_Z} {Tb : List Jvm.Cond} {own : String} {ini : Bool} {r1 : Int} {r2 : Nat}
theorem P_Wd.moved {u U : State} {h : List P_E} (hh : u.heap = U.heap) (hvm : u.vm.Alike U.vm) (hW : P_Wd cl aty nro stat D A u u.heap [] ro ws tys h) : P_Wd cl aty nro stat D A U U.heap [] ro ws tys h := by
  obtain ⟨h1, h2, h3, h4, h5, h6, h7, h8, h9, h10⟩ := hW
  rw [hh] at h1 h4 h5 h8 h10
  exact ⟨h1, h2.moved hvm, h3, h4, h5, h6, h7, fun i q hq => by
    obtain ⟨n, f, g1, g2⟩ := h8 i q hq
    exact ⟨n, f, g1, g2.moved hvm⟩, h9, fun x hx => by
    obtain ⟨q, g1, g2⟩ := h10 x hx
    exact ⟨q, g1, g2.moved hvm⟩⟩
theorem P_Ex.blind {u U : State} (hw2 : ∀ w ∈ T2, P_wm w) (hh : u.heap = U.heap) (hvm : u.vm = U.vm) (h : P_Ex nc tx T2 A u u.heap) : P_Ex nc tx T2 A U U.heap := by
  obtain ⟨h0, h1, h2, h3⟩ := h
  rw [hh] at h1
  have hal : u.vm.Alike U.vm := by rw [hvm]; exact Vm.Alike.refl _
  exact ⟨fun w hw => (hw2 w hw).1 _ _ _ _ hvm (h0 w hw), h1.imp id fun q => ⟨q.1.moved hal, q.2.moved hal⟩, fun x hx => (h2 x hx).moved hal, fun x hx => by
    obtain ⟨sa, g⟩ := h3 x hx
    exact ⟨sa, g.same hvm.symm⟩⟩
theorem P_Pc_blind {as' : List Value} {h : List P_E} {sz : Nat} (hw2 : ∀ w ∈ T2, P_wm w) : FrameBlind (P_Pc cl aty nro stat nc tx T2 D as' ro ws tys h sz) := by
  rintro a U g mk ⟨h1, h2, h3, h4⟩
  exact ⟨h1, h2, h3.moved (u := U) (U := U.calling g mk a) rfl (Vm.Alike.refl _), h4.blind hw2 (u := U) (U := U.calling g mk a) rfl rfl⟩
/-- the world as a callee sees it -/
theorem P_Wd.enter {h : List P_E} (hw2 : ∀ w ∈ T2, P_wm w) (hW : P_Wd cl aty nro stat D A s H locs ro ws tys h) (hE : P_Ex nc tx T2 A s s.heap) {U : State} (hU : U.heap = H) (hw : s.WarmedH U.vm) : P_Wd cl aty nro stat D (va_A ws H.size) U U.heap [] ro ws tys h ∧ P_Ex nc tx T2 (va_A ws H.size) U U.heap := by
  obtain ⟨h1, h2, h3, h4, h5, h6, h7, h8, h9, h10⟩ := hW
  have hfr := P_free h3 h4 h5
  have hkeep : ∀ a : Nat, a < s.heap.size → ¬ A a → H[a]? = s.heap[a]? := h4.2.1
  subst hU
  refine ⟨⟨h1, h2.moved hw.alike, h3.self, va_S.rf, fun q hq => Or.inr hq, h6, h7, fun i q hq => ?_, h9, fun x hx => ?_⟩, fun w hw' => (hw2 w hw').2 _ _ _ _ hw (hE.1 w hw'), ?_, fun x hx => (hE.2.2.1 x hx).moved hw.alike, fun x hx => ?_⟩
  · obtain ⟨n, f, g1, g2⟩ := h8 i q hq
    exact ⟨n, f, g1, ((g2.kept hkeep).narrow hfr).moved hw.alike⟩
  · obtain ⟨q, g1, g2⟩ := h10 x hx
    exact ⟨q, g1, ((g2.kept hkeep).narrow hfr).moved hw.alike⟩
  · exact hE.2.1.imp id fun z => ⟨((z.1.kept hkeep).narrow hfr).moved hw.alike, ((z.2.kept hkeep).narrow hfr).moved hw.alike⟩
  · obtain ⟨sa, g⟩ := hE.2.2.2 x hx
    exact ⟨sa, g.warm hw⟩
/-- the world behind a call -/
theorem P_Wd.back {h h1 : List P_E} {t : State} {ws1 : va_W} {tys1 : List (ClassId × FieldType)} {H1 : Heap} {locs1 : List Loc} (hW : P_Wd cl aty nro stat D A s H locs ro ws tys h) (hc : P_Wc cl aty nro D (va_A ws H.size) t H1 ro ws1 tys1 h1) (hal : s.vm.Alike t.vm) (hk : ∀ q : Nat, q < H.size → ¬ va_A ws H.size q → H1[q]? = H[q]?) (hS : va_S A s.heap H1 locs1) : P_Wd cl aty nro stat D A s H1 locs1 ro ws1 tys1 h1 := by
  obtain ⟨h1, h2, h3, h4, h5, h6, h7, h8, h9, h10⟩ := hW
  obtain ⟨c1, c2, c3, c4, c5, c6⟩ := hc
  have hfr := P_free h3 h4 h5
  refine ⟨c1, c2.moved hal.symm, c3.weaken (fun k q hk hq => hfr _ hq), hS, h5, h6, c4, fun i q hq => ?_, c6, h10⟩
  obtain ⟨n, f, g1, g2⟩ := h8 i q hq
  obtain ⟨n', f', b1, b2⟩ := c5 i q hq
  refine ⟨n', f', b1, ?_⟩
  have g3 := g2.out
  have g4 : q < s.heap.size := by
    obtain ⟨cell, d1, -⟩ := g2
    exact (Array.getElem?_eq_some_iff.mp d1).1
  have e1 : s.heap[q]? = H1[q]? := by
    rw [hk q (Nat.lt_of_lt_of_le g4 h4.1) (fun z => g3 (hfr q z)), h4.2.1 q g4 g3]
  obtain ⟨cell, d1, d2, d3, d4, d5, d6, -⟩ := b2.moved hal.symm
  exact ⟨cell, by rw [e1]; exact d1, d2, d3, d4, d5, d6, g3⟩
set_option maxHeartbeats 1000000 in
/-- what a call comes to -/
theorem P_run_ok {h h1 : List P_E} {mc ms : Nat} {r : P_R} {st0 : List Value} {aa : Array Value} (hW : P_Wd cl aty nro stat D A s H locs ro ws tys h)
    (hr : vx_Run p l e R s m args below meth c H locs cells slots mc ms (F0 m pc ls st0) rest (P_Qc cl aty nro D ro ws H.size r h1 aa) (P_XC cl aty nro N D ro ws H.size r h1) (va_A ws H.size))
    (kr : ∀ (v v' : Option Value) (H1 : Heap) (locs1 : List Loc) (ws1 : va_W) (tys1 : List (ClassId × FieldType)), r = .inl v → P_vo (P_rho ro ws1) v v' → P_sub (P_rho ro ws) (P_rho ro ws1) → P_Wd cl aty nro stat D A s H1 locs1 ro ws1 tys1 h1 → W p l e R s m args below meth c H1 locs1 (cells + mc) (slots + ms) Q (F0 m (pc + 3) ls (v'.toList ++ rest)))
    (kx : ∀ (k q : Nat) (ce : Cell) (H1 : Heap) (locs1 : List Loc) (ws1 : va_W) (tys1 : List (ClassId × FieldType)), r = .inr k → k < 3 → H1[q]? = some ce → ce.vm = .none → s.vm.findClass (N.2.2.2.2 k) = some ce.cls → P_sub (P_rho ro ws) (P_rho ro ws1) → P_Wd cl aty nro stat D A s H1 locs1 ro ws1 tys1 h1 → vx_W p l e R s m args below meth c H1 locs1 (cells + mc) (slots + ms) Q (F0 m pc ls rest) q) :
    W p l e R s m args below meth c H locs cells slots Q (F0 m pc ls st0) := by
  intro T hT X
  have hfr := P_free hW.2.2.1 hW.2.2.2.1 hW.2.2.2.2.1
  rcases hr T hT X with ⟨v, st₀, t, T', L, h0, X', hL, e1, e2, ⟨⟨pv, pv', ws', tys', b1, b2, b3, b4, b5⟩, hF⟩, st⟩ | ⟨q, st₀, t, T', L, E, ce, h0, X', hL, e1, e2, ⟨⟨k, ws', tys', b1, bk, rfl, b3, b4⟩, hF⟩, hce, hcv, hcl, st⟩
  · cases b2
    obtain ⟨k1, k2, k3⟩ := vx_keep h0 e1 hW.2.2.2.1 (fun q _ hq => hfr q hq) hfr hL hF
    have hW1 := hW.back (by rw [← e1] at b5; exact b5) (by rw [← e2]; exact X'.warmed.alike) k2 k3
    obtain ⟨t2, a1, b1'⟩ := kr pv _ T'.heap (locs ++ L) ws' tys' b1 b3 b4 hW1 T' rfl X'
    exact ⟨t2, st t2 a1, b1'⟩
  · obtain ⟨k1, k2, k3⟩ := vx_keep h0 e1 hW.2.2.2.1 (fun q _ hq => hfr q hq) hfr hL hF
    have hW1 := hW.back (by rw [← e1] at b4; exact b4) (by rw [← e2]; exact X'.warmed.alike) k2 k3
    obtain ⟨t2, a1, b1'⟩ := kx k q ce T'.heap (locs ++ L) ws' tys' b1 bk (by rw [e1]; exact hce) hcv hcl b3 hW1 T' rfl X'
    exact ⟨t2, st.trans a1, b1'⟩
set_option maxHeartbeats 1000000 in
/-- a call, by its contract -/
theorem P_call_ok (hw2 : ∀ w ∈ T2, P_wm w) (hC : P_Cx (Tg ++ T2) own ini cc nL p s m args meth c) {h h1 : P_H} (hW : P_Wd cl aty nro stat D A s H locs ro ws tys h.1) (hE : P_Ex nc tx T2 A s s.heap) (hgood : ∀ w ∈ Tg, goodWord w = true) (hL : P_L (P_rho ro ws) L ls nL) {V : Nat → Nat → Option Nat} {i : Instr} (hok : P_cok cl N (Tg ++ T2) V own i r1 r2) (hdg : decode cc pc = .ok (i, 3)) (hst : P_vs (P_rho ro ws) st st') {y mx d : Nat} {rt : Option FieldType} {as r0 : List Value} (hh : P_inv V i r1 r2 st h = some (y, as, r0)) (hcs : P_cs r0 ≤ 8) {r : P_R} (hm : P_mok N Tg y mx rt) (hct : P_Ct cl aty nro stat nc tx T2 N Tg l y d mx rt as h r h1) (hRf : d + 9 ≤ R.frames) (hRl : 60 * d + 260 ≤ R.locals) (hrc : cells + (h1.2.1 - h.2.1) ≤ R.cells) (hrs : slots + (h1.2.2 - h.2.2) ≤ R.slots) (hvoid : ∀ (i : Nat) (t : FieldType), i = y → rt = some t → (N.1 i).name ≠ "<init>") :
    ∃ (as' rest : List Value) (aa : Array Value), P_vs (P_rho ro ws) r0 rest ∧ vx_Run p l e R s m args below meth c H locs cells slots (h1.2.1 - h.2.1) (h1.2.2 - h.2.2) (F0 m pc ls st') rest (P_Qc cl aty nro D ro ws H.size r h1.1 aa) (P_XC cl aty nro N D ro ws H.size r h1.1) (va_A ws H.size) := by
  obtain ⟨hx, hb, hml, hown, hts, -, -⟩ := hC
  have hS : CallFix p m c cc nL s args (Tg ++ T2) own := ⟨hx, hb, hml, hown, hts⟩
  have hsz : ls.size = nL := by
    obtain ⟨-, l0, g1, -⟩ := hL
    exact g1.1
  obtain ⟨m1, m2, m3, m4⟩ := hm
  have hwords : ∀ w ∈ P_cw N y mx rt :: Tg, ∀ (a' : Array Value) (U : State), s.WarmedH U.vm → w.before a' U = true := by
    intro w hw a' U hU
    have hw' : w ∈ Tg := by
      rcases List.mem_cons.mp hw with rfl | q
      · exact m3
      · exact q
    exact word_at hU (good_of_word (hgood w hw')) (hts w (List.mem_append_left _ hw'))
  have m3' := hts _ (List.mem_append_left T2 m3)
  have hroom : (P_rm d (h1.2.1 - h.2.1) (h1.2.2 - h.2.2)).frames + 1 ≤ R.frames ∧ 8 + (mx + 11) + (P_rm d (h1.2.1 - h.2.1) (h1.2.2 - h.2.2)).locals ≤ R.locals := by
    constructor <;> simp only [P_rm] <;> omega
  have hpre : ∀ as' : List Value, ∀ U : State, U.heap = H → s.WarmedH U.vm → P_Pc cl aty nro stat nc tx T2 D as' ro ws tys h.1 H.size as'.toArray U := by
    intro as' U hU hw
    exact ⟨rfl, by rw [hU], hW.enter hw2 hE hU hw⟩
  cases i with
  | invokestatic idx =>
    simp only [P_inv] at hh
    split at hh
    · next hcond =>
      cases hh
      obtain ⟨g1, g2, g3, g4⟩ := hok hcond.2
      have hv := (hst.take (n := r1.toNat)).rev
      have hlen : ((st'.take r1.toNat).reverse).length = r1.toNat := by
        rw [List.length_reverse, List.length_take, ← hst.len]; omega
      have hsplit : st' = (st'.take r1.toNat).reverse.reverse ++ st'.drop r1.toNat := by rw [List.reverse_reverse, List.take_append_drop]
      have hcat := P_cs_ok (hst.dropn (n := r1.toNat))
      have hM := hct D ro ws tys H.size _ hv
      refine ⟨(st'.take r1.toNat).reverse, st'.drop r1.toNat, (st'.take r1.toNat).reverse.toArray, hst.dropn, ?_⟩
      by_cases hmh : N.2.2.1 r2 = []
      · have hcw : P_cw N r2 mx rt = .code (N.1 r2) (N.2.1 r2) mx rt := if_pos hmh
        rw [hcw] at m3' hwords hM
        rcases g4 with g4 | ⟨-, host, g4⟩
        · exact vx_runS (As := (st'.take r1.toNat).reverse) hS hM ⟨⟨rfl, rfl, hroom.1, hroom.2, hwords, List.mem_cons_self, m3', hts _ g2, m2, g1, hts _ g4⟩, hts _ g3⟩ ⟨P_Pc_blind hw2, hpre _⟩ rfl hlen hsz hsplit (by show 2 * 0 + _ ≤ 8; omega) hdg ⟨hrc, hrs⟩
        · exact vx_runSN (As := (st'.take r1.toNat).reverse) hS hM ⟨⟨⟨rfl, rfl, hroom.1, hroom.2, hwords, List.mem_cons_self⟩, m3', hts _ g2, m2, g1, hts _ g4⟩, hts _ g3, trivial⟩ ⟨P_Pc_blind hw2, hpre _⟩ rfl hlen hsz hsplit (by show 2 * 0 + _ ≤ 8; omega) hdg ⟨hrc, hrs⟩
      · have hcw : P_cw N r2 mx rt = .codeWith (N.1 r2) (N.2.1 r2) mx rt (N.2.2.1 r2) := if_neg hmh
        rw [hcw] at m3' hwords hM
        rcases g4 with g4 | ⟨q, -⟩
        · exact vx_runSX (As := (st'.take r1.toNat).reverse) hS hM ⟨⟨rfl, rfl, hroom.1, hroom.2, hwords, List.mem_cons_self⟩, m3', hts _ g2, m2, g1, hts _ g4, hts _ g3⟩ ⟨P_Pc_blind hw2, hpre _⟩ rfl hlen hsz hsplit (by show 2 * 0 + _ ≤ 8; omega) hdg ⟨hrc, hrs⟩
        · exact absurd q hmh
    · cases hh
  | invokespecial idx =>
    simp only [P_inv] at hh
    split at hh
    · next hlt =>
      split at hh
      · next a r1' hdrop =>
        cases hh
        obtain ⟨g1, g2, g3, g4, g5, g6⟩ := hok hlt
        have hd := hst.dropn (n := r1.toNat)
        rw [hdrop] at hd
        obtain ⟨w, rest, hsp, h2, h3⟩ := P_vs_cons hd
        have hv0 : P_v (P_rho ro ws) (.ref a) w := h2
        obtain ⟨q, -, rfl⟩ := h2
        have hv := (hst.take (n := r1.toNat)).rev
        have hl0 : r1.toNat < st.length := by
          have := congrArg List.length hdrop
          rw [List.length_drop, List.length_cons] at this
          omega
        have hlen : ((st'.take r1.toNat).reverse).length = r1.toNat := by
          rw [List.length_reverse, List.length_take, ← hst.len]; omega
        have hsplit : st' = (st'.take r1.toNat).reverse.reverse ++ .ref q :: rest := by rw [List.reverse_reverse, ← hsp, List.take_append_drop]
        have hcat := P_cs_ok h3
        have hM := hct D ro ws tys H.size (.ref q :: (st'.take r1.toNat).reverse) ⟨hv0, hv⟩
        refine ⟨.ref q :: (st'.take r1.toNat).reverse, rest, (.ref q :: (st'.take r1.toNat).reverse).toArray, h3, ?_⟩
        have hcw : P_cw N r2 mx rt = .code (N.1 r2) (N.2.1 r2) mx rt := if_pos g5
        rw [hcw] at m3' hwords hM
        rcases rt with _ | rt
        · rcases g6 with g6 | ⟨host, g6⟩
          · exact vx_runI (As := (st'.take r1.toNat).reverse) (b := q) hS hM ⟨⟨rfl, rfl, hroom.1, hroom.2, hwords, List.mem_cons_self, m3', hts _ g2, m2, g1, hts _ g6⟩, g4, hts _ g3⟩ ⟨P_Pc_blind hw2, hpre _⟩ rfl hlen hsz hsplit (by show 2 * 0 + _ ≤ 8; omega) hdg ⟨hrc, hrs⟩
          · exact vx_runIN (As := (st'.take r1.toNat).reverse) (b := q) hS hM ⟨⟨⟨rfl, rfl, hroom.1, hroom.2, hwords, List.mem_cons_self⟩, m3', hts _ g2, m2, g1, hts _ g6⟩, g4, hts _ g3⟩ ⟨P_Pc_blind hw2, hpre _⟩ rfl hlen hsz hsplit (by show 2 * 0 + _ ≤ 8; omega) hdg ⟨hrc, hrs⟩
        · exact absurd g4 (hvoid _ _ rfl rfl)
      · cases hh
    · cases hh
  | invokevirtual idx =>
    simp only [P_inv] at hh
    split at hh
    · next a r1' hdrop =>
      split at hh
      · next ci fs hcell =>
        split at hh
        · next y' hV =>
          cases hh
          obtain ⟨rr, g0, g1, g2, g3, g4⟩ := hok ci _ hV
          have hd := hst.dropn (n := r1.toNat)
          rw [hdrop] at hd
          obtain ⟨w, rest, hsp, h2, h3⟩ := P_vs_cons hd
          have hv0 : P_v (P_rho ro ws) (.ref a) w := h2
          have ha : nro ≤ a := by
            by_cases hq : a < nro
            · obtain ⟨q, n', f', -, b1, -⟩ := hW.row hq h2
              cases b1.symm.trans hcell
            · exact Nat.le_of_not_lt hq
          obtain ⟨q, e1, rfl, h6, fs', rfl, h7⟩ := hW.at ha h2 hcell
          have hv := (hst.take (n := r1.toNat)).rev
          have hl0 : r1.toNat < st.length := by
            have := congrArg List.length hdrop
            rw [List.length_drop, List.length_cons] at this
            omega
          have hlen : ((st'.take r1.toNat).reverse).length = r1.toNat := by
            rw [List.length_reverse, List.length_take, ← hst.len]; omega
          have hsplit : st' = (st'.take r1.toNat).reverse.reverse ++ .ref q :: rest := by rw [List.reverse_reverse, ← hsp, List.take_append_drop]
          have hcat := P_cs_ok h3
          have hM := hct D ro ws tys H.size (.ref q :: (st'.take r1.toNat).reverse) ⟨hv0, hv⟩
          refine ⟨.ref q :: (st'.take r1.toNat).reverse, rest, (.ref q :: (st'.take r1.toNat).reverse).toArray, h3, ?_⟩
          have hcw : P_cw N y mx rt = .code (N.1 y) (N.2.1 y) mx rt := if_pos g1
          rw [hcw] at m3' hwords hM
          have hrecv := va_recv hW.2.1 hW.1 g0 h6
          rcases g4 with ⟨g4, g5, g6 | ⟨host, g6⟩⟩ | ⟨x, owner, g4, g5, g6, g7, g8, g9⟩
          · exact vx_runV (As := (st'.take r1.toNat).reverse) (b := q) hS hM ⟨⟨rfl, rfl, hroom.1, hroom.2, hwords, List.mem_cons_self, m3', hts _ g2, m2, g4, hts _ g6⟩, hts _ g3, hts _ g5⟩ ⟨P_Pc_blind hw2, hrecv, hpre _⟩ rfl hlen hsz hsplit (by show 2 * 0 + _ ≤ 8; omega) hdg ⟨hrc, hrs⟩
          · exact vx_runVN (As := (st'.take r1.toNat).reverse) (b := q) hS hM ⟨⟨⟨rfl, rfl, hroom.1, hroom.2, hwords, List.mem_cons_self⟩, m3', hts _ g2, m2, g4, hts _ g6⟩, hts _ g3, hts _ g5⟩ ⟨P_Pc_blind hw2, hrecv, hpre _⟩ rfl hlen hsz hsplit (by show 2 * 0 + _ ≤ 8; omega) hdg ⟨hrc, hrs⟩
          · have hdecl : va_Decl s ⟨owner, x.name, x.desc⟩ := by
              rcases g9 with ⟨b1, b, mm, r, b2⟩ | b1
              · exact va_Decl.of (hts _ b1) (hts _ b2)
              · obtain ⟨m0, meth0, q1, q2, q3, q4⟩ := Jvm.Cond.declares_spec (hts _ b1)
                exact ⟨m0, meth0, q1, q2, q3, q4⟩
            exact vx_runU (As := (st'.take r1.toNat).reverse) (b := q) (x := x) (owner := owner) hS hM ⟨⟨rfl, rfl, hroom.1, hroom.2, hwords, List.mem_cons_self⟩, m3', hts _ g2, g5, g4, hts _ g6, hts _ g7, hdecl, hts _ g8, hts _ g3⟩ ⟨P_Pc_blind hw2, hrecv, hpre _⟩ rfl hlen hsz hsplit (by show 2 * 0 + _ ≤ 8; omega) hdg ⟨hrc, hrs⟩
        · cases hh
      · cases hh
    · cases hh
  | _ => cases hh
end CL
end
section
/-! THE TIE, 10: a method's walk -/
def P_isw (i : Instr) : Bool := match i with
  | .tableswitch _ _ _ _ => true
  | _ => false
def P_ldm (Tb : List Jvm.Cond) (own : String) (i : Instr) (r1 : Int) (r2 : Nat) : Prop := match i with
  | .ldc k => Jvm.Cond.constant own k (Int32.ofInt r1) ∈ Tb
  | .ldc_w k => Jvm.Cond.constant own k (Int32.ofInt r1) ∈ Tb
  | .ldc2_w k => if r2 = 0 then Jvm.Cond.constantLong own k (Int64.ofInt r1) ∈ Tb else Jvm.Cond.constantDouble own k (UInt64.ofNat r1.toNat) ∈ Tb
  | _ => True
theorem P_ldm_ok {Tb : List Jvm.Cond} {own : String} {i : Instr} {r1 : Int} {r2 : Nat} {args : Array Value} {s : State} (hts : ∀ w ∈ Tb, w.before args s = true) (h : P_ldm Tb own i r1 r2) : P_ldok own i r1 r2 args s := by
  cases i <;> simp only [P_ldok] <;> first | trivial | (exact hts _ h) | skip
  split
  · next hq => simp only [P_ldm, if_pos hq] at h; exact hts _ h
  · next hq => simp only [P_ldm, if_neg hq] at h; exact hts _ h
/-- what the tables say of a throw -/
def P_tok (Tb : List Jvm.Cond) (tx : List (String × Nat × String)) (N : P_N) (own : String) (cc : ByteArray) (hh : List (Nat × Nat × Nat × Nat)) (pc : Nat) (i : Instr) (r2 : Nat) : Prop := match i with
  | .new ik => 1000 ≤ r2 → ∃ (text : String) (is ic : Nat) (B : List String), B.length = 2 ∧ hh = [] ∧ Bundle.fit (N.2.2.2.2 (r2 - 1000)) = true ∧ (∀ n ∈ B, Bundle.fit n = true) ∧ Jvm.Cond.classLink own ik (N.2.2.2.2 (r2 - 1000)) ∈ Tb ∧ Jvm.Cond.initialized (N.2.2.2.2 (r2 - 1000)) ∈ Tb ∧ (own, is, text) ∈ tx ∧ (∀ w ∈ vx_atS own ic (N.2.2.2.2 (r2 - 1000)) B, w ∈ Tb) ∧ (∀ w ∈ Jvm.Cond.classLink own ik (N.2.2.2.2 (r2 - 1000)) :: Jvm.Cond.initialized (N.2.2.2.2 (r2 - 1000)) :: vx_atS own ic (N.2.2.2.2 (r2 - 1000)) B, vx_ot w = true) ∧ decode cc (pc + 3) = .ok (.dup, 1) ∧ ((decode cc (pc + 4) = .ok (.ldc is, 2) ∧ decode cc (pc + 6) = .ok (.invokespecial ic, 3) ∧ decode cc (pc + 9) = .ok (.athrow, 1)) ∨ (decode cc (pc + 4) = .ok (.ldc_w is, 3) ∧ decode cc (pc + 7) = .ok (.invokespecial ic, 3) ∧ decode cc (pc + 10) = .ok (.athrow, 1)))
  | _ => True
/-- what the tables say of the handlers at a place -/
def P_hok (Tb : List Jvm.Cond) (nc : List (String × String)) (N : P_N) (own : String) (cc : ByteArray) (hh : List (Nat × Nat × Nat × Nat)) (pc : Nat) (hs : List (Nat × Nat × Nat × Nat × Nat)) : Prop := ∀ E, E < 3 → match P_find E pc hs with
  | some (p, k) => ∃ (pre : List ExceptionTableEntry) (x : ExceptionTableEntry) (suf : List ExceptionTableEntry) (name : String), tableOf hh = pre ++ x :: suf ∧ (∀ z ∈ pre, covers z pc = false ∨ (z.catchType ≠ 0 ∧ ∃ nm : String, Jvm.Cond.classLink own z.catchType nm ∈ Tb ∧ (N.2.2.2.2 E, nm) ∈ nc)) ∧ covers x pc = true ∧ x.catchType ≠ 0 ∧ Jvm.Cond.classLink own x.catchType name ∈ Tb ∧ Jvm.Cond.castable (N.2.2.2.2 E) name ∈ Tb ∧ ((decode cc x.handlerPc = .ok (.astore k, 2) ∧ p = x.handlerPc + 2) ∨ ∃ k' : Fin 4, decode cc x.handlerPc = .ok (.astore_n k', 1) ∧ k = k'.val ∧ p = x.handlerPc + 1)
  | none => ∀ z ∈ tableOf hh, covers z pc = false ∨ (z.catchType ≠ 0 ∧ ∃ nm : String, Jvm.Cond.classLink own z.catchType nm ∈ Tb ∧ (N.2.2.2.2 E, nm) ∈ nc)
/-- what the tables say of one instruction -/
def P_eok (cl : List vw_C) (aty : Nat → FieldType) (stat : P_T) (nc : List (String × String)) (tx : List (String × Nat × String)) (N : P_N) (Tb : List Jvm.Cond) (Y : P_Y) (y : Nat) (hs : List (Nat × Nat × Nat × Nat × Nat)) (pc : Nat) (i : Instr) (nx : Nat) (r1 : Int) (r2 : Nat) : Prop :=
  (P_isw i = true → (∃ len, decode (N.2.1 y) pc = .ok (i, len)) ∧ ∀ dflt lo hi offs, i = .tableswitch dflt lo hi offs → 0 ≤ (pc : Int) + dflt ∧ ∀ o ∈ offs.toList, 0 ≤ (pc : Int) + o) ∧
  (P_isw i = false → decode (N.2.1 y) pc = .ok (i, P_len i) ∧ nx = pc + P_len i) ∧
  (∀ o, P_off i = some o → (pc : Int) + o = (r2 : Int)) ∧ P_ldm Tb (N.1 y).cls i r1 r2 ∧ P_iok cl aty Y.1 Tb stat (N.1 y).cls (N.2.2.2.1 y) i r1 r2 ∧ P_jok Tb (N.1 y).cls i r2 ∧ P_cok cl N Tb Y.2.2.2 (N.1 y).cls i r1 r2 ∧ P_tok Tb tx N (N.1 y).cls (N.2.1 y) (N.2.2.1 y) pc i r2 ∧ P_hok Tb nc N (N.1 y).cls (N.2.1 y) (N.2.2.1 y) pc hs
/-- what the tables say of all -/
def P_ok (cl : List vw_C) (aty : Nat → FieldType) (stat : P_T) (nc : List (String × String)) (tx : List (String × Nat × String)) (N : P_N) (Tg T2 : List Jvm.Cond) (Y : P_Y) : Prop :=
  P_clok cl Y.1 (Tg ++ T2) ∧ P_atok cl aty ∧ (∀ w ∈ Tg, goodWord w = true) ∧ (∀ w ∈ T2, P_wm w) ∧ (∀ y mx rt cd hs, Y.2.2.1 y = some (mx, rt, cd, hs) → (y ≠ 0 → P_mok N Tg y mx rt) ∧ (∀ t, rt = some t → (N.1 y).name ≠ "<init>") ∧ (N.2.2.2.1 y = true → (N.1 y).name = "<init>") ∧ ∀ pc i nx r1 r2 kN kT, cd pc = some (i, nx, r1, r2, kN, kT) → P_eok cl aty stat nc tx N (Tg ++ T2) Y y hs pc i nx r1 r2)
section HPOK
variable {p : Program} {l : Launch} {e : Env} {R : Room} {s : State} {m : MethodId} {args : Array Value} {below : List Frame} {meth : Method} {c : Code} {H : Heap} {locs : List Loc} {cells slots : Nat} {Q : State → Prop} {cc : ByteArray} {pc nL : Nat} {ls : Array Slot} {rest : List Value} {L L1 st st1 st' : List Value}
variable {cl : List vw_C} {aty : Nat → FieldType} {nro : Nat} {stat : P_T} {D : va_G} {A : Nat → Prop} {ro : List Nat} {ws : va_W} {tys : List (ClassId × FieldType)} {h h1 : P_H} {Z : P_Z} {Tb : List Jvm.Cond} {own : String} {ini : Bool} {r1 : Int} {r2 : Nat}
theorem P_sub_rf {ρ : List Nat} : P_sub ρ ρ := fun _ _ h => h
set_option maxHeartbeats 2000000 in
theorem P_hp_mono {i : Instr} (hh : P_hp Z nro i r1 r2 st h = some (st1, h1)) : h.2.1 ≤ h1.2.1 ∧ h.2.2 ≤ h1.2.2 := by
  unfold P_hp at hh
  split at hh
  all_goals repeat' split at hh
  all_goals first | (cases hh; done) | (cases hh; exact ⟨Nat.le_refl _, Nat.le_refl _⟩) | (cases hh; exact ⟨Nat.le_succ _, Nat.le_add_right _ _⟩) | (obtain ⟨kx, -, hh⟩ := P_bind_some hh; cases hh; exact ⟨Nat.le_refl _, Nat.le_refl _⟩) | skip
  all_goals unfold P_new at hh
  all_goals split at hh
  all_goals first | (cases hh; done) | (cases hh; exact ⟨Nat.le_succ _, Nat.le_add_right _ _⟩)
set_option maxHeartbeats 2000000 in
theorem P_hp_ok (hC : P_Cx Tb own ini cc nL p s m args meth c) (hW : P_Wd cl aty nro stat D A s H locs ro ws tys h.1) (hcl : P_clok cl Z Tb) (hat : P_atok cl aty) {i : Instr} (hok : P_iok cl aty Z Tb stat own ini i r1 r2) (hdg : decode cc pc = .ok (i, P_len i)) (hst : P_vs (P_rho ro ws) st st') (hh : P_hp Z nro i r1 r2 st h = some (st1, h1)) (hrc : cells + h1.2.1 ≤ R.cells + h.2.1) (hrs : slots + h1.2.2 ≤ R.slots + h.2.2)
    (k : ∀ (H1 : Heap) (locs1 : List Loc) (ws1 : va_W) (tys1 : List (ClassId × FieldType)) (ws' : List Value) (cells1 slots1 : Nat), P_sub (P_rho ro ws) (P_rho ro ws1) → P_Wd cl aty nro stat D A s H1 locs1 ro ws1 tys1 h1.1 → cells1 + h.2.1 = cells + h1.2.1 → slots1 + h.2.2 = slots + h1.2.2 → P_vs (P_rho ro ws1) st1 ws' → W p l e R s m args below meth c H1 locs1 cells1 slots1 Q (F0 m (pc + P_len i) ls ws')) : W p l e R s m args below meth c H locs cells slots Q (F0 m pc ls st') := by
  have kr : ∀ ws' : List Value, P_vs (P_rho ro ws) st1 ws' → h1 = h → W p l e R s m args below meth c H locs cells slots Q (F0 m (pc + P_len i) ls ws') := by
    intro ws' h2 h3
    subst h3
    exact k H locs ws tys ws' cells slots P_sub_rf hW rfl rfl h2
  have kw : ∀ (H1 : Heap) (locs1 : List Loc) (ws1 : va_W) (ws' : List Value), P_rho ro ws1 = P_rho ro ws → P_Wd cl aty nro stat D A s H1 locs1 ro ws1 tys h1.1 → h1.2 = h.2 → P_vs (P_rho ro ws) st1 ws' → W p l e R s m args below meth c H1 locs1 cells slots Q (F0 m (pc + P_len i) ls ws') := by
    intro H1 locs1 ws1 ws' e1 h2 e2 h3
    exact k H1 locs1 ws1 tys ws' cells slots (by rw [e1]; exact P_sub_rf) h2 (by rw [e2]) (by rw [e2]) (by rw [e1]; exact h3)
  cases i with
  | getfield idx => exact P_getf_ok hC hW hcl hok hdg hst hh kr
  | putfield idx => exact P_putf_ok hC hW hcl hok hdg hst hh kw
  | iaload => exact P_ald_ok hC hW hat (Or.inl rfl) hdg hst hh kr
  | baload => exact P_ald_ok hC hW hat (Or.inr (Or.inl rfl)) hdg hst hh kr
  | laload => exact P_ald_ok hC hW hat (Or.inr (Or.inr (Or.inl rfl))) hdg hst hh kr
  | daload => exact P_ald_ok hC hW hat (Or.inr (Or.inr (Or.inr (Or.inl rfl)))) hdg hst hh kr
  | aaload => exact P_ald_ok hC hW hat (Or.inr (Or.inr (Or.inr (Or.inr rfl)))) hdg hst hh kr
  | iastore => exact P_ast_ok hC hW hat (Or.inl rfl) hdg hst hh kw
  | bastore => exact P_ast_ok hC hW hat (Or.inr (Or.inl rfl)) hdg hst hh kw
  | lastore => exact P_ast_ok hC hW hat (Or.inr (Or.inr (Or.inl rfl))) hdg hst hh kw
  | dastore => exact P_ast_ok hC hW hat (Or.inr (Or.inr (Or.inr (Or.inl rfl)))) hdg hst hh kw
  | aastore => exact P_ast_ok hC hW hat (Or.inr (Or.inr (Or.inr (Or.inr rfl)))) hdg hst hh kw
  | arraylength => exact P_alen_ok hC hW hdg hst hh kr
  | getstatic idx => exact P_gets_ok hC hW hok hdg hst hh kr
  | new idx => exact P_new_ok hC hW hcl hat (Or.inl ⟨idx, rfl⟩) hok hdg hst hh hrc hrs (fun H1 ws1 tys1 ws' c1 s1 => k H1 locs ws1 tys1 ws' c1 s1)
  | newarray t => exact P_new_ok hC hW hcl hat (Or.inr (Or.inl ⟨t, rfl⟩)) hok hdg hst hh hrc hrs (fun H1 ws1 tys1 ws' c1 s1 => k H1 locs ws1 tys1 ws' c1 s1)
  | anewarray idx => exact P_new_ok hC hW hcl hat (Or.inr (Or.inr ⟨idx, rfl⟩)) hok hdg hst hh hrc hrs (fun H1 ws1 tys1 ws' c1 s1 => k H1 locs ws1 tys1 ws' c1 s1)
  | _ => cases hh
theorem P_ret_len {rt : Option FieldType} {i : Instr} {v : Option Value} (h : P_ret rt i st = some v) : P_len i = 1 ∧ P_isw i = false := by
  unfold P_ret at h
  split at h <;> first | exact ⟨rfl, rfl⟩ | cases h
theorem P_jdk_len {i : Instr} (h : P_jdk i r2 st = some st1) : P_len i = 3 ∧ P_isw i = false := by
  unfold P_jdk at h
  split at h <;> first | exact ⟨rfl, rfl⟩ | cases h
theorem P_inv_len {V : Nat → Nat → Option Nat} {i : Instr} {x : Nat × List Value × List Value} (h : P_inv V i r1 r2 st h1 = some x) : P_len i = 3 ∧ P_isw i = false := by
  unfold P_inv at h
  split at h <;> first | exact ⟨rfl, rfl⟩ | cases h
theorem P_op_sw {i : Instr} {x : List Value × List Value} (h : P_op i r1 r2 L st = some x) : P_isw i = false := by
  cases i <;> first | rfl | cases h
theorem P_br_sw {i : Instr} {x : Bool × List Value} (h : P_br i st = some x) : P_isw i = false := by
  cases i <;> first | rfl | cases h
theorem P_hp_sw {i : Instr} {x : List Value × P_H} (h : P_hp Z nro i r1 r2 st h1 = some x) : P_isw i = false := by
  cases i <;> first | rfl | cases h
theorem P_sw_sw {i : Instr} {x : Nat × List Value} (h : P_sw i pc st = some x) : P_isw i = true := by
  cases i <;> first | rfl | cases h
end HPOK
end
section
/-! THE TIE, 11: the walk -/
def P_inl (o : P_S ⊕ (P_R × P_H)) (pc : Nat) (L st : List Value) (h : P_H) : Prop := o = .inl (pc, L, st, h)
theorem P_do_inv {Y : P_Y} {ex : Nat → Nat → List Value → P_H → Option (P_R × P_H)} {d : Nat} {rt : Option FieldType} {hs : List (Nat × Nat × Nat × Nat × Nat)} {pc : Nat} {L st : List Value} {h : P_H} {i : Instr} {nx : Nat} {r1 : Int} {r2 : Nat} {kN kT : List Nat} {o : P_S ⊕ (P_R × P_H)} (hd : P_do Y ex d rt hs pc L st h i nx r1 r2 kN kT = some o) :
    (∃ L' st', P_op i r1 r2 L st = some (L', st') ∧ o = .inl (nx, P_kill L' kN, st', h)) ∨
    (∃ j st', P_br i st = some (j, st') ∧ o = .inl (if j = true then r2 else nx, P_kill L (if j = true then kT else kN), st', h)) ∨
    (∃ st' h', P_hp Y.1 Y.2.1 i r1 r2 st h = some (st', h') ∧ o = .inl (nx, P_kill L kN, st', h')) ∨
    (∃ v, P_ret rt i st = some v ∧ o = .inr (.inl v, h)) ∨
    (∃ st', P_jdk i r2 st = some st' ∧ o = .inl (nx, P_kill L kN, st', h)) ∨
    (∃ t st', P_sw i pc st = some (t, st') ∧ o = .inl (t, L, st', h)) ∨
    (∃ E, P_thr i r2 st = some E ∧ o = .inr (.inr E, (h.1, h.2.1 + 1, h.2.2 + 6))) ∨
    (∃ y as r d' x h', P_inv Y.2.2.2 i r1 r2 st h = some (y, as, r) ∧ ¬ 8 < P_cs r ∧ d = d' + 1 ∧ ex d' y as h = some (x, h') ∧
      ((∃ v, x = .inl v ∧ o = .inl (nx, P_kill L kN, v.toList ++ r, h')) ∨ (∃ E p k, x = .inr E ∧ P_find E pc hs = some (p, k) ∧ k < L.length ∧ o = .inl (p, P_st1 L k P_un, [], h')) ∨ (∃ E, x = .inr E ∧ P_find E pc hs = none ∧ o = .inr (.inr E, h')))) := by
  unfold P_do at hd
  split at hd
  · next L' st' he => cases hd; exact Or.inl ⟨L', st', he, rfl⟩
  refine Or.inr ?_
  split at hd
  · next st' he => cases hd; exact Or.inl ⟨true, st', he, rfl⟩
  · next st' he => cases hd; exact Or.inl ⟨false, st', he, rfl⟩
  refine Or.inr ?_
  split at hd
  · next st' h' he => cases hd; exact Or.inl ⟨st', h', he, rfl⟩
  refine Or.inr ?_
  split at hd
  · next v he => cases hd; exact Or.inl ⟨v, he, rfl⟩
  refine Or.inr ?_
  split at hd
  · next st' he => cases hd; exact Or.inl ⟨st', he, rfl⟩
  refine Or.inr ?_
  split at hd
  · next t st' he => cases hd; exact Or.inl ⟨t, st', he, rfl⟩
  refine Or.inr ?_
  split at hd
  · next E he => cases hd; exact Or.inl ⟨E, he, rfl⟩
  refine Or.inr ?_
  split at hd
  · next y as r he =>
    split at hd
    · cases hd
    · next hcs =>
      split at hd
      · cases hd
      · next d' =>
        split at hd
        · next v h' hx => cases hd; exact ⟨y, as, r, d', _, h', he, hcs, rfl, hx, Or.inl ⟨v, rfl, rfl⟩⟩
        · next E h' hx =>
          split at hd
          · next p k hf =>
            split at hd
            · next hk => cases hd; exact ⟨y, as, r, d', _, h', he, hcs, rfl, hx, Or.inr (Or.inl ⟨E, p, k, rfl, hf, hk, rfl⟩)⟩
            · cases hd
          · next hf => cases hd; exact ⟨y, as, r, d', _, h', he, hcs, rfl, hx, Or.inr (Or.inr ⟨E, rfl, hf, rfl⟩)⟩
        · cases hd
  · cases hd
/-- what a call of the machine by fuel comes to -/
def P_cal (Y : P_Y) (n d' y' : Nat) (as : List Value) (h' : P_H) : Option (P_R × P_H) := if y' = 0 then none else match Y.2.2.1 y' with
  | none => none
  | some (mx', _) => if (P_args as).length ≤ mx' then P_ex Y n d' y' (0, P_fit mx' (P_args as), [], h') else none
theorem P_ex_inv {Y : P_Y} {n d y pc : Nat} {L st : List Value} {h : P_H} {x : P_R × P_H} (hx : P_ex Y (n + 1) d y (pc, L, st, h) = some x) : ∃ mx rt cd hs i nx r1 r2 kN kT o, Y.2.2.1 y = some (mx, rt, cd, hs) ∧ cd pc = some (i, nx, r1, r2, kN, kT) ∧ P_do Y (P_cal Y n) d rt hs pc L st h i nx r1 r2 kN kT = some o ∧ ((∃ s, o = .inl s ∧ P_ex Y n d y s = some x) ∨ o = .inr x) := by
  unfold P_ex at hx
  split at hx
  · cases hx
  · next mx rt cd hs hy =>
    split at hx
    · cases hx
    · next i nx r1 r2 kN kT hc =>
      refine ⟨mx, rt, cd, hs, i, nx, r1, r2, kN, kT, ?_⟩
      split at hx
      · next s hd => exact ⟨_, hy, hc, hd, Or.inl ⟨s, rfl, hx⟩⟩
      · next r hd => cases hx; exact ⟨_, hy, hc, hd, Or.inr rfl⟩
      · cases hx
theorem P_ex_mono {Y : P_Y} : ∀ (n d y : Nat) (S : P_S) (r : P_R) (h1 : P_H), P_ex Y n d y S = some (r, h1) → S.2.2.2.2.1 ≤ h1.2.1 ∧ S.2.2.2.2.2 ≤ h1.2.2 := by
  intro n
  induction n with
  | zero => intro d y S r h1 hx; cases hx
  | succ n ih =>
    rintro d y ⟨pc, L, st, h⟩ r h1 hx
    obtain ⟨mx, rt, cd, hs, i, nx, r1, r2, kN, kT, o, hy, hc, hd, ho⟩ := P_ex_inv hx
    have hcal : ∀ d' y' as h' x h2, P_cal Y n d' y' as h' = some (x, h2) → h'.2.1 ≤ h2.2.1 ∧ h'.2.2 ≤ h2.2.2 := by
      intro d' y' as h' x h2 he
      unfold P_cal at he
      split at he
      · cases he
      split at he
      · cases he
      · split at he
        · exact ih _ _ _ _ _ he
        · cases he
    have key : (∃ pc' L' st' h', o = .inl (pc', L', st', h') ∧ h.2.1 ≤ h'.2.1 ∧ h.2.2 ≤ h'.2.2) ∨ (∃ r' h', o = .inr (r', h') ∧ h.2.1 ≤ h'.2.1 ∧ h.2.2 ≤ h'.2.2) := by
      rcases P_do_inv hd with ⟨L', st', -, rfl⟩ | ⟨j, st', -, rfl⟩ | ⟨st', h', he, rfl⟩ | ⟨v, -, rfl⟩ | ⟨st', -, rfl⟩ | ⟨t, st', -, rfl⟩ | ⟨E, -, rfl⟩ | ⟨y2, as, r2', d', x, h', -, -, -, he, ⟨v, -, rfl⟩ | ⟨E, p, k, -, -, -, rfl⟩ | ⟨E, -, -, rfl⟩⟩
      · exact Or.inl ⟨_, _, _, _, rfl, Nat.le_refl _, Nat.le_refl _⟩
      · exact Or.inl ⟨_, _, _, _, rfl, Nat.le_refl _, Nat.le_refl _⟩
      · exact Or.inl ⟨_, _, _, _, rfl, P_hp_mono he⟩
      · exact Or.inr ⟨_, _, rfl, Nat.le_refl _, Nat.le_refl _⟩
      · exact Or.inl ⟨_, _, _, _, rfl, Nat.le_refl _, Nat.le_refl _⟩
      · exact Or.inl ⟨_, _, _, _, rfl, Nat.le_refl _, Nat.le_refl _⟩
      · exact Or.inr ⟨_, _, rfl, Nat.le_succ _, Nat.le_add_right _ _⟩
      · exact Or.inl ⟨_, _, _, _, rfl, hcal _ _ _ _ _ _ he⟩
      · exact Or.inl ⟨_, _, _, _, rfl, hcal _ _ _ _ _ _ he⟩
      · exact Or.inr ⟨_, _, rfl, hcal _ _ _ _ _ _ he⟩
    rcases key with ⟨pc', L', st', h', rfl, k1, k2⟩ | ⟨r', h', rfl, k1, k2⟩
    · rcases ho with ⟨s, hs', hx'⟩ | hq
      · cases hs'
        have := ih _ _ _ _ _ hx'
        exact ⟨Nat.le_trans k1 this.1, Nat.le_trans k2 this.2⟩
      · cases hq
    · rcases ho with ⟨s, hs', -⟩ | hq
      · cases hs'
      · cases hq
        exact ⟨k1, k2⟩
end
section
/-! THE TIE, 12: the walk by induction on the fuel -/
theorem P_L.stun {ρ : List Nat} {L : List Value} {ls : Array Slot} {n i : Nat} {v' : Value} (hL : P_L ρ L ls n) : ∃ l : List (Nat × Value), lv_has ls n l ∧ ∀ ls' : Array Slot, lv_has ls' n ((i, v') :: l.filter (fun q => !(q.1 == i) && !(q.1 + 1 == i && q.2.category == 2))) → P_L ρ (P_st1 L i P_un) ls' n := by
  obtain ⟨h0, l, h1, h2⟩ := hL
  refine ⟨l, h1, fun ls' h' => ⟨by simp [P_st1, P_pre_len, h0], _, h', fun k x hk => ?_⟩⟩
  unfold P_st1 at hk
  rw [List.getElem?_set] at hk
  by_cases e : i = k
  · subst e
    simp only [if_true] at hk
    split at hk
    · exact Or.inl (Option.some.inj hk).symm
    · cases hk
  · rw [if_neg e] at hk
    obtain hq | ⟨h3, h4⟩ := P_pre_at hk
    · exact Or.inl hq
    · obtain hq | ⟨w, a, b⟩ := h2 k x h3
      · exact Or.inl hq
      · refine Or.inr ⟨w, List.mem_cons_of_mem _ (List.mem_filter.mpr ⟨a, ?_⟩), b⟩
        have e' : ¬ k = i := fun q => e q.symm
        have hc := b.cat
        by_cases h5 : k + 1 = i
        · have h6 : ¬ w.category = 2 := fun q => h4 ⟨h5, by rw [← hc]; exact q⟩
          simp [e', h6]
        · simp [e', h5]
theorem P_sub_tr {a b c : List Nat} (h1 : P_sub a b) (h2 : P_sub b c) : P_sub a c := fun i q h => h2 i q (h1 i q h)
section WK
variable (cl : List vw_C) (aty : Nat → FieldType) (stat : P_T) (nc : List (String × String)) (tx : List (String × Nat × String)) (N : P_N) (Tg T2 : List Jvm.Cond) (Y : P_Y) (l : Launch)
/-- how a frame ends: by its own return, by its own throw, by what a call throws -/
def P_kret (p : Program) (e : Env) (R : Room) (s : State) (m : MethodId) (args : Array Value) (below : List Frame) (meth : Method) (c : Code) (Q : State → Prop) (D : va_G) (A : Nat → Prop) (ro ρ0 : List Nat) (k0 k1 y : Nat) (rt : Option FieldType) (r : P_R) (h1 : P_H) : Prop :=
  ∀ (v : Option Value) (i : Instr) (pc' : Nat) (H' : Heap) (locs' : List Loc) (cells' slots' : Nat) (ws' : va_W) (tys' : List (ClassId × FieldType)) (ls' : Array Slot) (stp st'' : List Value), r = .inl v → decode (N.2.1 y) pc' = .ok (i, 1) → P_ret rt i stp = some v → P_vs (P_rho ro ws') stp st'' → P_sub ρ0 (P_rho ro ws') → P_Wd cl aty Y.2.1 stat D A s H' locs' ro ws' tys' h1.1 → cells' + k0 = h1.2.1 → slots' + k1 = h1.2.2 → W p l e R s m args below meth c H' locs' cells' slots' Q (F0 m pc' ls' st'')
def P_kthr (p : Program) (e : Env) (R : Room) (s : State) (m : MethodId) (args : Array Value) (below : List Frame) (meth : Method) (c : Code) (Q : State → Prop) (D : va_G) (A : Nat → Prop) (ro ρ0 : List Nat) (k0 k1 y mx : Nat) (r : P_R) (h1 : P_H) : Prop :=
  ∀ (idx r2 pc' : Nat) (H' : Heap) (locs' : List Loc) (cells' slots' : Nat) (ws' : va_W) (tys' : List (ClassId × FieldType)) (ls' : Array Slot), r = .inr (r2 - 1000) → 1000 ≤ r2 → r2 < 1003 → decode (N.2.1 y) pc' = .ok (.new idx, 3) → P_tok (Tg ++ T2) tx N (N.1 y).cls (N.2.1 y) (N.2.2.1 y) pc' (.new idx) r2 → ls'.size = mx → P_sub ρ0 (P_rho ro ws') → P_Wd cl aty Y.2.1 stat D A s H' locs' ro ws' tys' h1.1 → cells' + 1 + k0 = h1.2.1 → slots' + 6 + k1 = h1.2.2 → W p l e R s m args below meth c H' locs' cells' slots' Q (F0 m pc' ls' [])
def P_kprop (p : Program) (e : Env) (R : Room) (s : State) (m : MethodId) (args : Array Value) (below : List Frame) (meth : Method) (c : Code) (Q : State → Prop) (D : va_G) (A : Nat → Prop) (ro ρ0 : List Nat) (k0 k1 y : Nat) (r : P_R) (h1 : P_H) : Prop :=
  ∀ (E q : Nat) (ce : Cell) (pc' : Nat) (H' : Heap) (locs' : List Loc) (cells' slots' : Nat) (ws' : va_W) (tys' : List (ClassId × FieldType)) (ls' : Array Slot) (rest' : List Value), r = .inr E → E < 3 → (c.exceptionTable.toList = tableOf (N.2.2.1 y) → ∀ z ∈ c.exceptionTable.toList, covers z pc' = false ∨ (z.catchType ≠ 0 ∧ ∃ nm : String, (Jvm.Cond.classLink (N.1 y).cls z.catchType nm).before args s = true ∧ va_Nc (N.2.2.2.2 E) nm s)) → H'[q]? = some ce → ce.vm = .none → s.vm.findClass (N.2.2.2.2 E) = some ce.cls → P_sub ρ0 (P_rho ro ws') → P_Wd cl aty Y.2.1 stat D A s H' locs' ro ws' tys' h1.1 → cells' + k0 = h1.2.1 → slots' + k1 = h1.2.2 → vx_W p l e R s m args below meth c H' locs' cells' slots' Q (F0 m pc' ls' rest') q
/-- all walks of a fuel -/
def P_Walk (n : Nat) : Prop :=
  ∀ (d y pc : Nat) (L st : List Value) (h : P_H) (r : P_R) (h1 : P_H), P_ex Y n d y (pc, L, st, h) = some (r, h1) → ∀ (mx : Nat) (rt : Option FieldType) (cd : Nat → Option P_I) (hs : List (Nat × Nat × Nat × Nat × Nat)), Y.2.2.1 y = some (mx, rt, cd, hs) →
    ∀ (p : Program) (e : Env) (R : Room) (s : State) (m : MethodId) (args : Array Value) (below : List Frame) (meth : Method) (c : Code) (Q : State → Prop) (D : va_G) (A : Nat → Prop) (ro ρ0 : List Nat) (k0 k1 : Nat),
    P_Cx (Tg ++ T2) (N.1 y).cls (N.2.2.2.1 y) (N.2.1 y) mx p s m args meth c → (hs = [] ∨ c.exceptionTable.toList = tableOf (N.2.2.1 y)) → P_Ex nc tx T2 A s s.heap → d + 8 ≤ R.frames → 60 * d + 200 ≤ R.locals → h1.2.1 ≤ R.cells + k0 → h1.2.2 ≤ R.slots + k1 →
    P_kret cl aty stat N Y l p e R s m args below meth c Q D A ro ρ0 k0 k1 y rt r h1 → P_kthr cl aty stat tx N Tg T2 Y l p e R s m args below meth c Q D A ro ρ0 k0 k1 y mx r h1 → P_kprop cl aty stat N Y l p e R s m args below meth c Q D A ro ρ0 k0 k1 y r h1 →
    ∀ (H : Heap) (locs : List Loc) (cells slots : Nat) (ws : va_W) (tys : List (ClassId × FieldType)) (ls : Array Slot) (st' : List Value), P_sub ρ0 (P_rho ro ws) → P_Wd cl aty Y.2.1 stat D A s H locs ro ws tys h.1 → cells + k0 = h.2.1 → slots + k1 = h.2.2 → P_L (P_rho ro ws) L ls mx → P_vs (P_rho ro ws) st st' →
    W p l e R s m args below meth c H locs cells slots Q (F0 m pc ls st')
end WK
section WK2
variable {cl : List vw_C} {aty : Nat → FieldType} {stat : P_T} {nc : List (String × String)} {tx : List (String × Nat × String)} {N : P_N} {Tg T2 : List Jvm.Cond} {Y : P_Y} {l : Launch}
set_option maxHeartbeats 1000000 in
theorem P_ct_of (hok : P_ok cl aty stat nc tx N Tg T2 Y) (hl : tx = [] ∨ l.stackTraces = false) {n d y : Nat} {as : List Value} {h : P_H} {x : P_R} {h1 : P_H} (hW : P_Walk cl aty stat nc tx N Tg T2 Y l n) (he : P_cal Y n d y as h = some (x, h1)) : ∃ (mx : Nat) (rt : Option FieldType), P_mok N Tg y mx rt ∧ (∀ (i : Nat) (t : FieldType), i = y → rt = some t → (N.1 i).name ≠ "<init>") ∧ P_Ct cl aty Y.2.1 stat nc tx T2 N Tg l y d mx rt as h x h1 := by
  unfold P_cal at he
  split at he
  · cases he
  next hy0 =>
  split at he
  · cases he
  next mx rest hy =>
  rcases Nat.lt_or_ge mx (P_args as).length with hlt0 | hlen
  · rw [if_neg (Nat.not_le.mpr hlt0)] at he
    cases he
  rw [if_pos hlen] at he
  obtain ⟨rt, cd, hs⟩ := rest
  obtain ⟨o1, o2, o3, o5, o4⟩ := hok
  obtain ⟨m1, m2, m3, m4⟩ := o4 y mx rt cd hs hy
  have m1 := m1 hy0
  refine ⟨mx, rt, m1, fun i t hi ht => by subst hi; exact m2 t ht, ?_⟩
  intro D ro ws tys sz as' has
  obtain ⟨c1, c2, c3, c4⟩ := m1
  have hmono := P_ex_mono _ _ _ _ _ _ he
  have body : ∀ (p : Program) (e : Env) (s : State) (m : MethodId) (args : Array Value) (below : List Frame) (meth : Method) (c : Code) (s₁ : State), BodyLoose p l (N.1 y) (headSpec (P_cw N y mx rt :: Tg) (P_rm d (h1.2.1 - h.2.1) (h1.2.2 - h.2.2))) (N.2.1 y) mx rt e s m args below meth c s₁ → c.maxLocals = mx → c.exceptionTable.toList = tableOf (N.2.2.1 y) → P_Pc cl aty Y.2.1 stat nc tx T2 D as' ro ws tys h.1 sz args s →
      W p l e (headSpec (P_cw N y mx rt :: Tg) (P_rm d (h1.2.1 - h.2.1) (h1.2.2 - h.2.2))).room s m args below meth c s.heap [] 0 0 (vx_MQ below (P_Qc cl aty Y.2.1 D ro ws sz x h1.1) (P_XC cl aty Y.2.1 N D ro ws sz x h1.1) args s (h1.2.1 - h.2.1) (h1.2.2 - h.2.2) (va_A ws sz)) (entryFrame m args mx) := by
    intro p e s m args below meth c s₁ B hml htab hPc
    obtain ⟨rfl, hsz, hWd, hEx⟩ := hPc
    have hts := atoms_spec (ws := P_cw N y mx rt :: Tg) B.pre
    have hts' : ∀ w ∈ Tg ++ T2, w.before as'.toArray s = true := fun w hw => (List.mem_append.mp hw).elim (fun q => hts w (List.mem_cons_of_mem _ q)) (fun q => (o5 w q).1 _ _ _ _ rfl (hEx.1 w q))
    have hown : s.vm.findClass (N.1 y).cls = some m.cls := findClass_of_methodNamed B.named
    have hname : meth.name = (N.1 y).name := (name_of_methodNamed B.named B.method).1
    have hCx : P_Cx (Tg ++ T2) (N.1 y).cls (N.2.2.2.1 y) (N.2.1 y) mx p s m as'.toArray meth c := ⟨B.exec, B.bytes, hml, hown, hts', B.notSynchronized, fun hi => by rw [hname]; exact m3 hi⟩
    rw [lg_entry_eq]
    have hLoc := P_entry (ρ := P_rho ro ws) has hlen
    have hFr : ∀ {H' : Heap} {locs' : List Loc} {t : State}, va_S (va_A ws sz) s.heap H' locs' → t.heap = H' → va_F (va_A ws sz) s t := fun h1 h2 => h1.F h2
    have hWc : ∀ {H' : Heap} {locs' : List Loc} {ws' : va_W} {tys' : List (ClassId × FieldType)} {hh : List P_E} {t : State}, P_Wd cl aty Y.2.1 stat D (va_A ws sz) s H' locs' ro ws' tys' hh → t.heap = H' → s.vm.Alike t.vm → P_Wc cl aty Y.2.1 D (va_A ws sz) t t.heap ro ws' tys' hh := by
      intro H' locs' ws' tys' hh t g ht hal
      obtain ⟨g1, g2, g3, g4, g5, g6, g7, g8, g9, g10⟩ := g
      rw [ht]
      refine ⟨g1, g2.moved hal, g3, g7, fun i q hq => ?_, g9⟩
      obtain ⟨nn, f, b1, b2⟩ := g8 i q hq
      refine ⟨nn, f, b1, ?_⟩
      have b3 := b2.out
      obtain ⟨cell, d1, d2, d3, d4, d5, d6, -⟩ := b2.moved hal
      have b4 : q < s.heap.size := (Array.getElem?_eq_some_iff.mp d1).1
      exact ⟨cell, by rw [g4.2.1 q b4 b3]; exact d1, d2, d3, d4, d5, d6, fun z => z⟩
    refine hW d y 0 _ [] h x h1 he mx rt cd hs hy p e _ s m as'.toArray below meth c _ D (va_A ws sz) ro (P_rho ro ws) h.2.1 h.2.2 hCx (Or.inr htab) hEx ?_ ?_ ?_ ?_ ?_ ?_ ?_ s.heap [] 0 0 ws tys _ [] P_sub_rf hWd (Nat.zero_add _) (Nat.zero_add _) hLoc trivial
    · show d + 8 ≤ d + 8
      omega
    · show 60 * d + 200 ≤ 60 * d + 200
      omega
    · show h1.2.1 ≤ h1.2.1 - h.2.1 + h.2.1
      omega
    · show h1.2.2 ≤ h1.2.2 - h.2.2 + h.2.2
      omega
    · intro v i pc' H' locs' cells' slots' ws' tys' ls' stp st'' hr hdg hret hvs hsub hW' hc hs'
      refine vx_ret (W.widen (k := h1.2.1 - h.2.1) (n := h1.2.2 - h.2.2) (by omega) (by omega) ?_)
      exact P_ret_ok B.exec B.bytes B.returns B.notSynchronized hdg hvs hret (fun v' t hv ht hw => ⟨⟨v, v', ws', tys', hr, rfl, hv, hsub, hWc hW' ht hw.alike⟩, hFr hW'.2.2.2.1 ht⟩) hW'.2.2.2.1.2.2
    · intro idx r2 pc' H' locs' cells' slots' ws' tys' ls' hr hlo hhi hdg htok hls hsub hW' hc hs'
      obtain ⟨text, is, ic, BB, t0, t1, t2, t3, t4, t5, t6, t7, t8, t9, t10⟩ := htok hlo
      have htx : ¬ tx = [] := fun q => by rw [q] at t6; cases t6
      have hlt : l.stackTraces = false := hl.resolve_left htx
      obtain ⟨hU, hN⟩ := hEx.2.1.resolve_left htx
      obtain ⟨sa, hsa⟩ := hEx.2.2.2 _ t6
      have htab0 : ∀ k : Nat, ∀ z ∈ c.exceptionTable.toList, covers z k = false := by
        rw [htab, t1]
        intro k z hz
        cases hz
      have r1 : BB.length + 3 < d + 8 := by omega
      have r2' : (([] : List Value).map fun v => v.category).sum + (13 * (BB.length + 1) + 43) ≤ 60 * d + 200 := by simp [t0]
      have r3 : cells' + 1 ≤ h1.2.1 - h.2.1 := by omega
      have r4 : slots' + 6 ≤ h1.2.2 - h.2.2 := by omega
      have hX : ∀ t : State, s.vm.Alike t.vm → H'.size ≤ t.heap.size → (∀ q : Nat, q < H'.size → t.heap[q]? = H'[q]?) → P_XC cl aty Y.2.1 N D ro ws sz x h1.1 (N.2.2.2.2 (r2 - 1000)) s t := by
        intro t hal hle hkeep
        have hS2 : va_S (va_A ws sz) s.heap t.heap locs' := ⟨Nat.le_trans hW'.2.2.2.1.1 hle, fun q b1 b2 => (hkeep q (Nat.lt_of_lt_of_le b1 hW'.2.2.2.1.1)).trans (hW'.2.2.2.1.2.1 q b1 b2), hW'.2.2.2.1.2.2⟩
        obtain ⟨g1, g2, g3, g4, g5, g6, g7, g8, g9, g10⟩ := hW'
        have hW2 : P_Wd cl aty Y.2.1 stat D (va_A ws sz) s t.heap locs' ro ws' tys' h1.1 := ⟨g1.kept (fun k q hk => hkeep q.1 ((g1 k q hk).lt)), g2, g3, hS2, g5, g6, g7, g8, g9, g10⟩
        exact ⟨⟨r2 - 1000, ws', tys', hr, by omega, rfl, hsub, hWc hW2 rfl hal⟩, hFr hS2 rfl⟩
      rcases t10 with ⟨t10, t11, t12⟩ | ⟨t10, t11, t12⟩
      · exact vx_throwS (A := va_A ws sz) B.exec B.bytes hlt hown t2 t3 (hts' _ t4) (hts' _ t5) hsa (fun w hw => hts' w (t7 w hw)) t8 hU hN hW'.2.2.2.1 (by rw [hls, hml]) hdg t9 t10 t11 t12 (htab0 _) r1 r2' r3 r4 B.notSynchronized hX hW'.2.2.2.1.2.2 (by omega) (by omega)
      · exact vx_throwSW (A := va_A ws sz) B.exec B.bytes hlt hown t2 t3 (hts' _ t4) (hts' _ t5) hsa (fun w hw => hts' w (t7 w hw)) t8 hU hN hW'.2.2.2.1 (by rw [hls, hml]) hdg t9 t10 t11 t12 (htab0 _) r1 r2' r3 r4 B.notSynchronized hX hW'.2.2.2.1.2.2 (by omega) (by omega)
    · intro E q ce pc' H' locs' cells' slots' ws' tys' ls' rest' hr hE hpass hce hcv hcl hsub hW' hc hs'
      exact vx_outP hown B.notSynchronized (hpass htab) hce hcv hcl (fun t ht hal => ⟨⟨E, ws', tys', hr, hE, rfl, hsub, hWc hW' ht hal⟩, hFr hW'.2.2.2.1 ht⟩) hW'.2.2.2.1.2.2 (by omega) (by omega)
  by_cases hmh : N.2.2.1 y = []
  · have hcw : P_cw N y mx rt = .code (N.1 y) (N.2.1 y) mx rt := if_pos hmh
    rw [hcw] at body ⊢
    refine vx_ofW (cc := N.2.1 y) (maxL := mx) (ret := rt) c1 rfl (fun p e s m args below meth c s₁ B hml htab hPc => body p e s m args below meth c s₁ B hml ?_ hPc)
    rw [hmh]
    cases hq : c.exceptionTable.toList with
    | nil => rfl
    | cons z zs => exact (htab z (by rw [hq]; exact List.mem_cons_self)).elim
  · have hcw : P_cw N y mx rt = .codeWith (N.1 y) (N.2.1 y) mx rt (N.2.2.1 y) := if_neg hmh
    rw [hcw] at body ⊢
    refine vx_ofWH (cc := N.2.1 y) (maxL := mx) (ret := rt) (hh := N.2.2.1 y) c1 rfl (fun p e s m args below meth c s₁ B hml hPc => body p e s m args below meth c s₁ B hml ?_ hPc)
    exact vx_table (x := N.1 y) (y := N.1 y) B (atoms_spec B.pre _ List.mem_cons_self)
end WK2
end
section
/-! THE TIE, 13: the step of the induction -/
section WK4
variable {cl : List vw_C} {aty : Nat → FieldType} {stat : P_T} {nc : List (String × String)} {tx : List (String × Nat × String)} {N : P_N} {Tg T2 : List Jvm.Cond} {Y : P_Y} {l : Launch}
theorem P_vo_list {ρ : List Nat} {v v' : Option Value} {r r' : List Value} (h : P_vo ρ v v') (hr : P_vs ρ r r') : P_vs ρ (v.toList ++ r) (v'.toList ++ r') := by
  cases v with
  | none =>
    cases v' with
    | none => exact hr
    | some b => exact h.elim
  | some a =>
    cases v' with
    | none => exact h.elim
    | some b => exact ⟨h, hr⟩
set_option maxHeartbeats 2000000 in
theorem P_walk_step (hok : P_ok cl aty stat nc tx N Tg T2 Y) (hl : tx = [] ∨ l.stackTraces = false) {n : Nat} (ih : P_Walk cl aty stat nc tx N Tg T2 Y l n) : P_Walk cl aty stat nc tx N Tg T2 Y l (n + 1) := by
  intro d y pc L st h r h1 hx mx rt cd hs hy p e R s m args below meth c Q D A ro ρ0 k0 k1 hC htab hE hRf hRl hRc hRs kret kthr kprop H locs cells slots ws tys ls st' hsub hW hk0 hk1 hL hst
  have hmono := P_ex_mono _ _ _ _ _ _ hx
  simp only at hmono
  obtain ⟨mx', rt', cd', hs', i, nx, r1, r2, kN, kT, o, hy', hc, hd, ho⟩ := P_ex_inv hx
  cases hy.symm.trans hy'
  obtain ⟨o1, o2, o3, o5, o4⟩ := id hok
  obtain ⟨m1, m2, m3, m4⟩ := o4 y mx rt cd hs hy
  obtain ⟨e1, e2, e3, e4, e5, e6, e7, e8, e9⟩ := m4 pc i nx r1 r2 kN kT hc
  obtain ⟨hxx, hb, hml, hown, hts, hlocks, hini⟩ := id hC
  have hroN : ro.length = Y.2.1 := hW.2.2.2.2.2.1
  -- going on inside the frame
  have go : ∀ (pc' : Nat) (L' st2 : List Value) (h' : P_H), P_ex Y n d y (pc', L', st2, h') = some (r, h1) → ∀ (H : Heap) (locs : List Loc) (cells slots : Nat) (ws : va_W) (tys : List (ClassId × FieldType)) (ls : Array Slot) (st' : List Value), P_sub ρ0 (P_rho ro ws) → P_Wd cl aty Y.2.1 stat D A s H locs ro ws tys h'.1 → cells + k0 = h'.2.1 → slots + k1 = h'.2.2 → P_L (P_rho ro ws) L' ls mx → P_vs (P_rho ro ws) st2 st' → W p l e R s m args below meth c H locs cells slots Q (F0 m pc' ls st') := by
    intro pc' L' st2 h' hx'
    exact ih d y pc' L' st2 h' r h1 hx' mx rt cd hs hy p e R s m args below meth c Q D A ro ρ0 k0 k1 hC htab hE hRf hRl hRc hRs kret kthr kprop
  have next : ∀ (s2 : P_S), o = .inl s2 → P_ex Y n d y s2 = some (r, h1) := by
    intro s2 hs2
    rcases ho with ⟨s3, h3, h4⟩ | h3
    · cases h3.symm.trans hs2
      exact h4
    · cases h3.symm.trans hs2
  rcases P_do_inv hd with ⟨L', st2, he, rfl⟩ | ⟨j, st2, he, rfl⟩ | ⟨st2, h', he, rfl⟩ | ⟨v, he, rfl⟩ | ⟨st2, he, rfl⟩ | ⟨t, st2, he, rfl⟩ | ⟨E, he, rfl⟩ | ⟨y2, as, r0, d', x, h', he, hcs, rfl, hcal, hout⟩
  · obtain ⟨g1, g2⟩ := e2 (P_op_sw he)
    have hx' := next _ rfl
    refine P_op_ok hxx hb hown g1 (P_ldm_ok hts e4) hL hst he (fun ls' ws' b1 b2 => ?_)
    rw [← g2]
    exact go _ _ _ _ hx' H locs cells slots ws tys ls' ws' hsub hW hk0 hk1 (b1.kill kN) b2
  · obtain ⟨g1, g2⟩ := e2 (P_br_sw he)
    have hx' := next _ rfl
    refine P_br_ok hxx hb g1 e3 hst he (fun ws' b2 => ?_)
    rw [← g2]
    exact go _ _ _ _ hx' H locs cells slots ws tys ls ws' hsub hW hk0 hk1 (hL.kill _) b2
  · obtain ⟨g1, g2⟩ := e2 (P_hp_sw he)
    have hx' := next _ rfl
    have hm2 := P_ex_mono _ _ _ _ _ _ hx'
    simp only at hm2
    refine P_hp_ok hC hW o1 o2 e5 g1 hst he (by omega) (by omega) (fun H1 locs1 ws1 tys1 ws' c1 s1 b1 b2 b3 b4 b5 => ?_)
    rw [← g2]
    exact go _ _ _ _ hx' H1 locs1 c1 s1 ws1 tys1 ls ws' (P_sub_tr hsub b1) b2 (by omega) (by omega) ((hL.mono b1).kill _) b5
  · obtain ⟨g0, g3⟩ := P_ret_len he
    obtain ⟨g1, g2⟩ := e2 g3
    rw [g0] at g1
    rcases ho with ⟨s3, h3, -⟩ | h3
    · cases h3
    · cases h3
      exact kret v i pc H locs cells slots ws tys ls st st' rfl g1 he hst hsub hW hk0 hk1
  · obtain ⟨g0, g3⟩ := P_jdk_len he
    obtain ⟨g1, g2⟩ := e2 g3
    rw [g0] at g1 g2
    have hx' := next _ rfl
    refine P_jdk_ok hC hL e6 g1 hst he (by omega) (by omega) (by omega) (by omega) (fun ws' b2 => ?_)
    rw [← g2]
    exact go _ _ _ _ hx' H locs cells slots ws tys ls ws' hsub hW hk0 hk1 (hL.kill _) b2
  · obtain ⟨⟨len, g1⟩, g2⟩ := e1 (P_sw_sw he)
    have hx' := next _ rfl
    refine P_sw_ok hxx hb g1 hst he g2 (fun ws' b2 => ?_)
    exact go _ _ _ _ hx' H locs cells slots ws tys ls ws' hsub hW hk0 hk1 hL b2
  · rcases ho with ⟨s3, h3, -⟩ | h3
    · cases h3
    · cases h3
      cases i with
      | new idx =>
        simp only [P_thr] at he
        split at he
        · next hcond =>
          have he := Option.some.inj he
          subst he
          obtain ⟨b1, b2, b3⟩ := hcond
          have hst0 : st = [] := List.isEmpty_iff.mp b3
          subst hst0
          rw [P_vs_nil hst]
          obtain ⟨g1, g2⟩ := e2 rfl
          have hls : ls.size = mx := by
            obtain ⟨-, l0, q1, -⟩ := hL
            exact q1.1
          exact kthr idx r2 pc H locs cells slots ws tys ls rfl b1 b2 g1 e8 hls hsub hW (by show cells + 1 + k0 = h.2.1 + 1; omega) (by show slots + 6 + k1 = h.2.2 + 6; omega)
        · cases he
      | _ => cases he
  · obtain ⟨g0, g3⟩ := P_inv_len he
    obtain ⟨g1, g2⟩ := e2 g3
    rw [g0] at g1 g2
    obtain ⟨mx2, rt2, q1, q2, q3⟩ := P_ct_of hok hl ih hcal
    have hcm : h.2.1 ≤ h'.2.1 ∧ h.2.2 ≤ h'.2.2 := by
      unfold P_cal at hcal
      split at hcal
      · cases hcal
      split at hcal
      · cases hcal
      · split at hcal
        · exact P_ex_mono _ _ _ _ _ _ hcal
        · cases hcal
    have hfin : h'.2.1 ≤ h1.2.1 ∧ h'.2.2 ≤ h1.2.2 := by
      rcases hout with ⟨v, -, hq⟩ | ⟨E, p2, k, -, -, -, hq⟩ | ⟨E, -, -, hq⟩
      · exact P_ex_mono _ _ _ _ _ _ (next _ hq)
      · exact P_ex_mono _ _ _ _ _ _ (next _ hq)
      · rcases ho with ⟨s3, h3, -⟩ | h3
        · cases h3.symm.trans hq
        · cases h3.symm.trans hq
          exact ⟨Nat.le_refl _, Nat.le_refl _⟩
    obtain ⟨as', rest, aa, hrest, hrun⟩ := P_call_ok (cells := cells) (slots := slots) o5 hC hW hE o3 hL e7 g1 hst he (Nat.le_of_not_lt hcs) q1 q3 (by omega) (by omega) (by omega) (by omega) q2
    refine P_run_ok hW hrun (fun v v' H1 locs1 ws1 tys1 b1 b2 b3 b4 => ?_) (fun k q ce H1 locs1 ws1 tys1 b1 bk b2 b3 b4 b5 b6 => ?_)
    · rcases hout with ⟨v2, c1, hq⟩ | ⟨E, p2, k, c1, -, -, -⟩ | ⟨E, c1, -, -⟩
      · cases c1.symm.trans b1
        rw [← g2]
        exact go _ _ _ _ (next _ hq) H1 locs1 _ _ ws1 tys1 ls _ (P_sub_tr hsub b3) b4 (by omega) (by omega) ((hL.mono b3).kill _) (P_vo_list b2 (hrest.mono b3))
      · cases c1.symm.trans b1
      · cases c1.symm.trans b1
    · have e9 := e9 k bk
      rcases hout with ⟨v2, c1, hq⟩ | ⟨E, p2, kk, c1, c2, c3, hq⟩ | ⟨E, c1, c2, hq⟩
      · cases c1.symm.trans b1
      · cases c1.symm.trans b1
        have htab := htab.resolve_left (fun z => by rw [z] at c2; cases c2)
        rw [c2] at e9
        obtain ⟨pre, z, suf, name, w1, w2, w3, w4, w5, w6, w7⟩ := e9
        obtain ⟨l0, u1, u2⟩ := (hL.mono b5).stun (i := kk) (v' := .ref q)
        have hlt : kk < mx := by rw [← hL.1]; exact c3
        refine vx_catch (E := N.2.2.2.2 k) (name := name) hown pre z suf (by rw [htab]; exact w1) (fun z hz => (w2 z hz).imp id (fun u => ⟨u.1, ?_⟩)) w3 w4 (hts _ w5) (hts _ w6) b2 b3 b4 ?_
        · obtain ⟨-, nm, u2, u3⟩ := u
          exact ⟨nm, hts _ u2, hE.2.2.1 _ u3⟩
        · rcases w7 with ⟨w7, w8⟩ | ⟨k', w7, w8, w9⟩
          · refine lv_astore hxx hb w7 u1 hlt rfl (fun ls' hls' => ?_)
            rw [← w8]
            exact go _ _ _ _ (next _ hq) H1 locs1 _ _ ws1 tys1 ls' [] (P_sub_tr hsub b5) b6 (by omega) (by omega) (u2 ls' hls') trivial
          · subst w8
            refine lv_astore_n hxx hb w7 rfl u1 hlt rfl (fun ls' hls' => ?_)
            rw [← w9]
            exact go _ _ _ _ (next _ hq) H1 locs1 _ _ ws1 tys1 ls' [] (P_sub_tr hsub b5) b6 (by omega) (by omega) (u2 ls' hls') trivial
      · cases c1.symm.trans b1
        rw [c2] at e9
        rcases ho with ⟨s3, h3, -⟩ | h3
        · cases h3.symm.trans hq
        · cases h3.symm.trans hq
          refine kprop k q ce pc H1 locs1 _ _ ws1 tys1 ls rest rfl bk (fun htab z hz => ?_) b2 b3 b4 (P_sub_tr hsub b5) b6 (by omega) (by omega)
          rw [htab] at hz
          exact (e9 z hz).imp id (fun u => ⟨u.1, by
            obtain ⟨-, nm, u2, u3⟩ := u
            exact ⟨nm, hts _ u2, hE.2.2.1 _ u3⟩⟩)
theorem P_walk (hok : P_ok cl aty stat nc tx N Tg T2 Y) (hl : tx = [] ∨ l.stackTraces = false) : ∀ n, P_Walk cl aty stat nc tx N Tg T2 Y l n := by
  intro n
  induction n with
  | zero =>
    intro d y pc L st h r h1 hx
    cases hx
  | succ n ih => exact P_walk_step hok hl ih
end WK4
end
section
/-! TABLES: how the methods' code is written down, and how it is checked -/
def P_at {α : Type} (l : List (List α)) (d : α) (y : Nat) : α := (((l[y / 20]?).getD [])[y % 20]?).getD d
def P_lk (l : List (List (Nat × P_I))) (pc : Nat) : Option P_I := ((l[pc / 32]?).getD []).lookup pc
theorem P_lookup_mem {β : Type} : ∀ {l : List (Nat × β)} {k : Nat} {x : β}, l.lookup k = some x → (k, x) ∈ l
  | [], _, _, h => by cases h
  | (a, b) :: l, k, x, h => by
    rw [List.lookup_cons] at h
    split at h
    · next hk =>
      cases h
      have : k = a := by simpa using hk
      subst this
      exact List.mem_cons_self
    · exact List.mem_cons_of_mem _ (P_lookup_mem h)
theorem P_lk_mem {l : List (List (Nat × P_I))} {pc : Nat} {x : P_I} (h : P_lk l pc = some x) : ∃ ch ∈ l, (pc, x) ∈ ch := by
  unfold P_lk at h
  cases hq : l[pc / 32]? with
  | none => rw [hq] at h; cases h
  | some ch =>
    rw [hq] at h
    exact ⟨ch, List.mem_of_getElem? hq, P_lookup_mem h⟩
def P_chk (b : ByteArray) (q : Nat × P_I) : Bool := match decode b q.1 with
  | .ok (i, len) => decide (i = q.2.1) && (match i with
    | .tableswitch dflt _ _ offs => decide (0 ≤ (q.1 : Int) + dflt) && offs.toList.all (fun o => decide (0 ≤ (q.1 : Int) + o))
    | i => decide (len = P_len i) && decide (q.2.2.1 = q.1 + len) && (match P_off i with
      | some o => decide ((q.1 : Int) + o = (q.2.2.2.2.1 : Int))
      | none => true))
  | .error _ => false
theorem P_chk_ok {b : ByteArray} {pc : Nat} {i : Instr} {nx : Nat} {r1 : Int} {r2 : Nat} {kN kT : List Nat} (h : P_chk b (pc, i, nx, r1, r2, kN, kT) = true) :
    (P_isw i = true → (∃ len, decode b pc = .ok (i, len)) ∧ ∀ dflt lo hi offs, i = .tableswitch dflt lo hi offs → 0 ≤ (pc : Int) + dflt ∧ ∀ o ∈ offs.toList, 0 ≤ (pc : Int) + o) ∧
    (P_isw i = false → decode b pc = .ok (i, P_len i) ∧ nx = pc + P_len i) ∧ (∀ o, P_off i = some o → (pc : Int) + o = (r2 : Int)) := by
  unfold P_chk at h
  simp only at h
  split at h
  · next i' len hd =>
    rw [Bool.and_eq_true, decide_eq_true_eq] at h
    obtain ⟨rfl, h⟩ := h
    split at h
    · next dflt lo hi offs =>
      rw [Bool.and_eq_true, decide_eq_true_eq, List.all_eq_true] at h
      refine ⟨fun _ => ⟨⟨len, hd⟩, ?_⟩, fun hq => (by cases hq), fun o ho => (by cases ho)⟩
      intro d2 lo2 hi2 offs2 he
      cases he
      exact ⟨h.1, fun o ho => by simpa using h.2 o ho⟩
    · next hns =>
      rw [Bool.and_eq_true, Bool.and_eq_true, decide_eq_true_eq, decide_eq_true_eq] at h
      obtain ⟨⟨rfl, h2⟩, h3⟩ := h
      refine ⟨fun hq => ?_, fun _ => ⟨hd, h2⟩, fun o ho => ?_⟩
      · exfalso
        cases i' <;> simp [P_isw] at hq
        exact hns _ _ _ _ rfl
      · rw [ho] at h3
        simpa using h3
  · cases h
section LNK
variable (cl : List vw_C) (aty : Nat → FieldType) (stat : P_T) (nc : List (String × String)) (tx : List (String × Nat × String)) (N : P_N) (Tb : List Jvm.Cond) (Y : P_Y)
/-- what the tables say of one instruction's names -/
def P_lnk (own : String) (ini : Bool) (cc : ByteArray) (hh : List (Nat × Nat × Nat × Nat)) (pc : Nat) (i : Instr) (r1 : Int) (r2 : Nat) : Prop :=
  P_ldm Tb own i r1 r2 ∧ P_iok cl aty Y.1 Tb stat own ini i r1 r2 ∧ P_jok Tb own i r2 ∧ P_cok cl N Tb Y.2.2.2 own i r1 r2 ∧ P_tok Tb tx N own cc hh pc i r2
end LNK
section LNK2
variable {cl : List vw_C} {aty : Nat → FieldType} {stat : P_T} {nc : List (String × String)} {tx : List (String × Nat × String)} {N : P_N} {Tb : List Jvm.Cond} {Y : P_Y} {own : String} {ini : Bool} {cc : ByteArray} {hh : List (Nat × Nat × Nat × Nat)} {pc : Nat} {r1 : Int} {r2 : Nat}
/-- an instruction without names -/
def P_nl (i : Instr) : Bool := match i with
  | .ldc _ | .ldc_w _ | .ldc2_w _ | .getfield _ | .putfield _ | .newarray _ | .anewarray _ | .new _ | .getstatic _ | .invokestatic _ | .invokespecial _ | .invokevirtual _ => false
  | _ => true
theorem P_lnk_nl {i : Instr} (h : P_nl i = true) : P_lnk cl aty stat tx N Tb Y own ini cc hh pc i r1 r2 := by
  cases i <;> first | (simp [P_nl] at h; done) | exact ⟨trivial, trivial, trivial, trivial, trivial⟩
theorem P_lnk_ldc {k : Nat} (h : Jvm.Cond.constant own k (Int32.ofInt r1) ∈ Tb) : P_lnk cl aty stat tx N Tb Y own ini cc hh pc (.ldc k) r1 r2 := ⟨h, trivial, trivial, trivial, trivial⟩
theorem P_lnk_ldcw {k : Nat} (h : Jvm.Cond.constant own k (Int32.ofInt r1) ∈ Tb) : P_lnk cl aty stat tx N Tb Y own ini cc hh pc (.ldc_w k) r1 r2 := ⟨h, trivial, trivial, trivial, trivial⟩
theorem P_lnk_ldl {k : Nat} (h : Jvm.Cond.constantLong own k (Int64.ofInt r1) ∈ Tb) : P_lnk cl aty stat tx N Tb Y own ini cc hh pc (.ldc2_w k) r1 0 := ⟨h, trivial, trivial, trivial, trivial⟩
theorem P_lnk_ldd {k : Nat} (h : Jvm.Cond.constantDouble own k (UInt64.ofNat r1.toNat) ∈ Tb) : P_lnk cl aty stat tx N Tb Y own ini cc hh pc (.ldc2_w k) r1 1 := ⟨h, trivial, trivial, trivial, trivial⟩
theorem P_lnk_get {k : Nat} (h : ∀ ci, Y.1.2.1 r1.toNat ci = true → P_fok cl Tb own k ci r2) : P_lnk cl aty stat tx N Tb Y own ini cc hh pc (.getfield k) r1 r2 := ⟨trivial, h, trivial, trivial, trivial⟩
theorem P_lnk_put {k : Nat} (h : ∀ ci, Y.1.2.1 r1.toNat ci = true → P_pok cl Tb own ini k ci r2) : P_lnk cl aty stat tx N Tb Y own ini cc hh pc (.putfield k) r1 r2 := ⟨trivial, h, trivial, trivial, trivial⟩
theorem P_lnk_nwa {t : ArrayType} (h : newarray.typeOf t = aty r2) (h2 : Jvm.Cond.arrayClass (aty r2) ∈ Tb) : P_lnk cl aty stat tx N Tb Y own ini cc hh pc (.newarray t) r1 r2 := ⟨trivial, ⟨h, h2⟩, trivial, trivial, trivial⟩
theorem P_lnk_anw {k : Nat} {C : String} (h : aty r2 = .object C) (h2 : Jvm.Cond.classLink own k C ∈ Tb) (h3 : Jvm.Cond.arrayOver (.object C) ∈ Tb) : P_lnk cl aty stat tx N Tb Y own ini cc hh pc (.anewarray k) r1 r2 := ⟨trivial, Or.inl ⟨C, h, h2, h3⟩, trivial, trivial, trivial⟩
theorem P_lnk_anr {k : Nat} {t : FieldType} (h : aty r2 = .array t) (h2 : Jvm.Cond.classLink own k (FieldType.array t).toString ∈ Tb) (h3 : Jvm.Cond.arrayOver (.array t) ∈ Tb) : P_lnk cl aty stat tx N Tb Y own ini cc hh pc (.anewarray k) r1 r2 := ⟨trivial, Or.inr ⟨t, h, h2, h3⟩, trivial, trivial, trivial⟩
theorem P_lnk_new {k : Nat} {C : String} {T : u_T} {n : Nat} (h0 : r2 < 1000) (h : cl[r2]? = some (C, T, n)) (h1 : Jvm.Cond.classLink own k C ∈ Tb) (h2 : Jvm.Cond.instantiable C n ∈ Tb) (h3 : Jvm.Cond.initialized C ∈ Tb) : P_lnk cl aty stat tx N Tb Y own ini cc hh pc (.new k) r1 r2 := ⟨trivial, fun _ => ⟨C, T, n, h, h1, h2, h3⟩, trivial, trivial, fun q => absurd h0 (Nat.not_lt.mpr q |> fun z => by omega)⟩
theorem P_lnk_thr {k : Nat} (h0 : 1000 ≤ r2) (h : P_tok Tb tx N own cc hh pc (.new k) r2) : P_lnk cl aty stat tx N Tb Y own ini cc hh pc (.new k) r1 r2 := ⟨trivial, fun q => absurd h0 (Nat.not_le.mpr q), trivial, trivial, h⟩
theorem P_lnk_gst {k : Nat} {C ref n d : String} (h : (C, n, d, r2) ∈ stat) (h2 : Jvm.Cond.fieldLink own k ref n d ∈ Tb ∨ ∃ host, Jvm.Cond.fieldLinkNest own k ref n d host ∈ Tb) (h3 : ref = C ∨ Jvm.Cond.sameField ref C n d ∈ Tb) : P_lnk cl aty stat tx N Tb Y own ini cc hh pc (.getstatic k) r1 r2 := ⟨trivial, ⟨C, ref, n, d, h, h2, h3⟩, trivial, trivial, trivial⟩
theorem P_lnk_st {k : Nat} (h0 : r2 < 9000) (h : P_cok cl N Tb Y.2.2.2 own (.invokestatic k) r1 r2) : P_lnk cl aty stat tx N Tb Y own ini cc hh pc (.invokestatic k) r1 r2 := ⟨trivial, trivial, ⟨fun q => by omega, fun q => by omega⟩, h, trivial⟩
theorem P_lnk_sj {k : Nat} (h0 : 9000 ≤ r2) (h : P_jok Tb own (.invokestatic k) r2) : P_lnk cl aty stat tx N Tb Y own ini cc hh pc (.invokestatic k) r1 r2 := ⟨trivial, trivial, h, fun q => by omega, trivial⟩
theorem P_lnk_sp {k : Nat} (h0 : r2 < 9000) (h : P_cok cl N Tb Y.2.2.2 own (.invokespecial k) r1 r2) : P_lnk cl aty stat tx N Tb Y own ini cc hh pc (.invokespecial k) r1 r2 := ⟨trivial, trivial, fun q => by omega, h, trivial⟩
theorem P_lnk_oj {k : Nat} (h : P_jok Tb own (.invokespecial k) 9000) : P_lnk cl aty stat tx N Tb Y own ini cc hh pc (.invokespecial k) r1 9000 := ⟨trivial, trivial, h, fun q => by omega, trivial⟩
theorem P_lnk_vi {k : Nat} (h : P_cok cl N Tb Y.2.2.2 own (.invokevirtual k) r1 r2) : P_lnk cl aty stat tx N Tb Y own ini cc hh pc (.invokevirtual k) r1 r2 := ⟨trivial, trivial, trivial, h, trivial⟩
/-- a method without handlers -/
theorem P_hok_nil {E0 : Nat} : P_hok Tb nc N own cc [] E0 [] := by
  intro E hE
  show ∀ z ∈ tableOf [], _
  intro z hz
  cases hz
/-- a method that is no one else's, chosen for an object of a kind below: out of other words -/
theorem P_sel_sub {C C' : String} {x' y y' : MethodName} {n : Nat} {args : Array Value} {s : State} (hy : y.cls ≠ "java/lang/invoke/MethodHandle" ∧ y.cls ≠ "java/lang/invoke/VarHandle") (hins : (Jvm.Cond.instantiable C n).before args s = true) (hpriv : (Jvm.Cond.privateMethod y).before args s = true) (hinst : (Jvm.Cond.instanceMethod y).before args s = true) (hoth : (Jvm.Cond.selects C' x' y').before args s = true) (hcls : y'.cls = y.cls) : (Jvm.Cond.selects C y y).before args s = true := by
  obtain ⟨c, k, hc, hk, -, -, -, -⟩ := Jvm.Cond.instantiable_spec hins
  obtain ⟨mk, methM, hnamed, hmethM, -, -⟩ := Jvm.Cond.instanceMethod_spec hinst
  have hfound : s.methodFound? y.cls y.name y.desc = some mk := State.methodFound?_of_named hnamed hy
  have hsel : selectMethod {} s.vm c mk = .method mk := selectMethod_private hmethM (Jvm.Cond.privateMethod_at hpriv mk methM hnamed hmethM)
  obtain ⟨c2, r2, m2, -, -, q3, -, kP, hkP, hkPi⟩ := Jvm.Cond.selects_spec hoth
  have e1 := findClass_of_methodNamed q3
  rw [hcls] at e1
  have hcl : mk.cls = m2.cls := Option.some.inj ((findClass_of_methodNamed hnamed).symm.trans e1)
  rw [← hcl] at hkP
  simp only [Jvm.Cond.before, Jvm.Cond.holds, Jvm.Cond.value, hc, hfound, hnamed, hsel, hkP]
  simp
  exact hkPi
/-- handlers written down beside the class file's: from, to, handler, the pool's entry, the thrown one, the pc behind the store, its local -/
theorem P_hok_par (hnc : ∀ E E', E < 3 → E' < 3 → E ≠ E' → (N.2.2.2.2 E, N.2.2.2.2 E') ∈ nc) : ∀ (l : List (Nat × Nat × Nat × Nat × Nat × Nat × Nat)) (pre : List ExceptionTableEntry), (∀ q ∈ l, q.2.2.2.1 ≠ 0 ∧ q.2.2.2.2.1 < 3 ∧ Jvm.Cond.classLink own q.2.2.2.1 (N.2.2.2.2 q.2.2.2.2.1) ∈ Tb ∧ Jvm.Cond.castable (N.2.2.2.2 q.2.2.2.2.1) (N.2.2.2.2 q.2.2.2.2.1) ∈ Tb ∧ ((decode cc q.2.2.1 = .ok (.astore q.2.2.2.2.2.2, 2) ∧ q.2.2.2.2.2.1 = q.2.2.1 + 2) ∨ ∃ k' : Fin 4, decode cc q.2.2.1 = .ok (.astore_n k', 1) ∧ q.2.2.2.2.2.2 = k'.val ∧ q.2.2.2.2.2.1 = q.2.2.1 + 1)) →
    ∀ (E : Nat), E < 3 → (∀ z ∈ pre, covers z pc = false ∨ (z.catchType ≠ 0 ∧ ∃ nm : String, Jvm.Cond.classLink own z.catchType nm ∈ Tb ∧ (N.2.2.2.2 E, nm) ∈ nc)) → tableOf hh = pre ++ tableOf (l.map fun q => (q.1, q.2.1, q.2.2.1, q.2.2.2.1)) →
    match P_find E pc (l.map fun q => (q.1, q.2.1, q.2.2.2.2.1, q.2.2.2.2.2.1, q.2.2.2.2.2.2)) with
    | some (p, k) => ∃ (pre : List ExceptionTableEntry) (x : ExceptionTableEntry) (suf : List ExceptionTableEntry) (name : String), tableOf hh = pre ++ x :: suf ∧ (∀ z ∈ pre, covers z pc = false ∨ (z.catchType ≠ 0 ∧ ∃ nm : String, Jvm.Cond.classLink own z.catchType nm ∈ Tb ∧ (N.2.2.2.2 E, nm) ∈ nc)) ∧ covers x pc = true ∧ x.catchType ≠ 0 ∧ Jvm.Cond.classLink own x.catchType name ∈ Tb ∧ Jvm.Cond.castable (N.2.2.2.2 E) name ∈ Tb ∧ ((decode cc x.handlerPc = .ok (.astore k, 2) ∧ p = x.handlerPc + 2) ∨ ∃ k' : Fin 4, decode cc x.handlerPc = .ok (.astore_n k', 1) ∧ k = k'.val ∧ p = x.handlerPc + 1)
    | none => ∀ z ∈ tableOf hh, covers z pc = false ∨ (z.catchType ≠ 0 ∧ ∃ nm : String, Jvm.Cond.classLink own z.catchType nm ∈ Tb ∧ (N.2.2.2.2 E, nm) ∈ nc) := by
  intro l
  induction l with
  | nil =>
    intro pre _ E hE hpre ht
    show ∀ z ∈ tableOf hh, _
    rw [ht]
    intro z hz
    rcases List.mem_append.mp hz with q | q
    · exact hpre z q
    · cases q
  | cons a l ih =>
    intro pre hl E hE hpre ht
    obtain ⟨f, t, hp, ct, x, p, k⟩ := a
    obtain ⟨a1, a2, a3, a4, a5⟩ := hl _ List.mem_cons_self
    simp only at a1 a2 a3 a4 a5
    simp only [List.map_cons, P_find]
    by_cases hc : f ≤ pc ∧ pc < t ∧ x = E
    · rw [if_pos hc]
      obtain ⟨c1, c2, rfl⟩ := hc
      exact ⟨pre, ⟨f, t, hp, ct⟩, _, _, ht, hpre, by simp [covers, c1, c2], a1, a3, a4, a5⟩
    · rw [if_neg hc]
      refine ih (pre ++ [⟨f, t, hp, ct⟩]) (fun q hq => hl q (List.mem_cons_of_mem _ hq)) E hE ?_ (by rw [ht, List.append_assoc]; rfl)
      intro z hz
      rcases List.mem_append.mp hz with q | q
      · exact hpre z q
      · have hz' : z = ⟨f, t, hp, ct⟩ := by simpa using q
        subst hz'
        by_cases hr : f ≤ pc ∧ pc < t
        · refine Or.inr ⟨a1, _, a3, hnc E x hE a2 (fun e => hc ⟨hr.1, hr.2, e.symm⟩)⟩
        · refine Or.inl ?_
          simp only [covers]
          simp only [Bool.and_eq_false_iff, decide_eq_false_iff_not]
          omega
theorem P_look_all {β : Type} {P : Nat → β → Prop} : ∀ {l : List (Nat × β)}, (∀ q ∈ l, P q.1 q.2) → ∀ k x, l.lookup k = some x → P k x := fun h k x hk => h (k, x) (P_lookup_mem hk)
theorem P_all_nil {α : Type} {P : α → Prop} : ∀ q ∈ ([] : List α), P q := fun _ h => nomatch h
theorem P_all_cons {α : Type} {P : α → Prop} {a : α} {l : List α} (h : P a) (t : ∀ q ∈ l, P q) : ∀ q ∈ a :: l, P q := List.forall_mem_cons.mpr ⟨h, t⟩
def P_ieq (a b : Nat × P_I) : Bool := decide (a.1 = b.1) && (decide (a.2.1 = b.2.1) && (decide (a.2.2.1 = b.2.2.1) && (decide (a.2.2.2.1 = b.2.2.2.1) && (decide (a.2.2.2.2.1 = b.2.2.2.2.1) && decide (a.2.2.2.2.2 = b.2.2.2.2.2)))))
theorem P_ieq_ok {a b : Nat × P_I} (h : P_ieq a b = true) : a = b := by
  obtain ⟨a1, a2, a3, a4, a5, a6⟩ := a
  obtain ⟨b1, b2, b3, b4, b5, b6⟩ := b
  simp only [P_ieq, Bool.and_eq_true, decide_eq_true_eq] at h
  obtain ⟨rfl, rfl, rfl, rfl, rfl, rfl⟩ := h
  rfl
/-- what of a list of instructions has names, in order -/
def P_leq : List (Nat × P_I) → List (Nat × P_I) → Bool
  | [], l => l.isEmpty
  | q :: r, l => if P_nl q.2.1 = true then P_leq r l else match l with
    | [] => false
    | x :: l => P_ieq q x && P_leq r l
theorem P_leq_ok : ∀ {r l : List (Nat × P_I)}, P_leq r l = true → ∀ q ∈ r, P_nl q.2.1 = false → q ∈ l
  | [], _, _, q, hq, _ => by cases hq
  | x :: r, l, h, q, hq, hn => by
    unfold P_leq at h
    rcases List.mem_cons.mp hq with rfl | hq
    · rw [if_neg (by simp [hn])] at h
      split at h
      · cases h
      · rw [Bool.and_eq_true] at h
        rw [P_ieq_ok h.1]
        exact List.mem_cons_self
    · split at h
      · exact P_leq_ok h q hq hn
      · split at h
        · cases h
        · rw [Bool.and_eq_true] at h
          exact List.mem_cons_of_mem _ (P_leq_ok h.2 q hq hn)
/-- a whole method, by its written code -/
theorem P_meth {Tg : List Jvm.Cond} {y mx : Nat} {rt : Option FieldType} {ch : List (List (Nat × P_I))} {hs : List (Nat × Nat × Nat × Nat × Nat)} (own : String) (ini : Bool) (cc : ByteArray) (hh : List (Nat × Nat × Nat × Nat)) (h1 : (N.1 y).cls = own) (h2 : N.2.1 y = cc) (h3 : N.2.2.1 y = hh) (h4 : N.2.2.2.1 y = ini) (hp : plainName own = true) (hn : own ≠ "java/lang/invoke/MethodHandle" ∧ own ≠ "java/lang/invoke/VarHandle") (hw : y ≠ 0 → P_cw N y mx rt ∈ Tg) (hm : mx ≤ 40) (hi : ∀ t, rt = some t → (N.1 y).name ≠ "<init>") (hin : ini = true → (N.1 y).name = "<init>")
    (hc : ∀ c ∈ ch, c.all (P_chk cc) = true) (lk : List (Nat × P_I)) (hlk : P_leq ch.flatten lk = true) (hl : ∀ q ∈ lk, P_lnk cl aty stat tx N Tb Y own ini cc hh q.1 q.2.1 q.2.2.2.1 q.2.2.2.2.1) (hk : ∀ pc, (P_lk ch pc).isSome = true → P_hok Tb nc N own cc hh pc hs) :
    (y ≠ 0 → P_mok N Tg y mx rt) ∧ (∀ t, rt = some t → (N.1 y).name ≠ "<init>") ∧ (N.2.2.2.1 y = true → (N.1 y).name = "<init>") ∧ ∀ pc i nx r1 r2 kN kT, P_lk ch pc = some (i, nx, r1, r2, kN, kT) → P_eok cl aty stat nc tx N Tb Y y hs pc i nx r1 r2 := by
  subst h1; subst h2; subst h3; subst h4
  refine ⟨fun hy => ⟨hp, hn, hw hy, hm⟩, hi, hin, ?_⟩
  intro pc i nx r1 r2 kN kT he
  obtain ⟨c, hcm, hq⟩ := P_lk_mem he
  have g1 := List.all_eq_true.mp (hc c hcm) _ hq
  obtain ⟨a1, a2, a3⟩ := P_chk_ok g1
  have hL : P_lnk cl aty stat tx N Tb Y (N.1 y).cls (N.2.2.2.1 y) (N.2.1 y) (N.2.2.1 y) pc i r1 r2 := by
    cases g3 : P_nl i with
    | true => exact P_lnk_nl g3
    | false =>
      exact hl (pc, i, nx, r1, r2, kN, kT) (P_leq_ok hlk _ (List.mem_flatten.mpr ⟨c, hcm, hq⟩) g3)
  obtain ⟨b1, b2, b3, b4, b5⟩ := hL
  exact ⟨a1, a2, a3, b1, b2, b3, b4, b5, hk pc (by rw [he]; rfl)⟩
end LNK2
/-- no reference among what fields hold at first -/
def P_pl (v : Value) : Bool := match v with
  | .ref _ => false
  | .retAddr _ => false
  | _ => true
theorem P_pl_ok {l : List Value} (h : l.all P_pl = true) (j : Nat) : P_v [] (l.getD j .null) (l.getD j .null) := by
  have : P_pl (l.getD j .null) = true := by
    rw [List.getD_eq_getElem?_getD]
    cases hq : l[j]? with
    | none => rfl
    | some v => exact List.all_eq_true.mp h v (List.mem_of_getElem? hq)
  generalize l.getD j .null = v at this
  cases v <;> first | rfl | (simp [P_pl] at this)
end
