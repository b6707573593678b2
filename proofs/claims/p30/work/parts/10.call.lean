/-! THE TIE, 9: contracts and calls -/
/-- the methods' names, code, tables of handlers, whether one is a constructor; the thrown ones' names -/
abbrev P_N : Type := (Nat → MethodName) × (Nat → ByteArray) × (Nat → List (Nat × Nat × Nat × Nat)) × (Nat → Bool) × (Nat → String)
def P_cw (N : P_N) (y mx : Nat) (rt : Option FieldType) : Jvm.Cond := if N.2.2.1 y = [] then .code (N.1 y) (N.2.1 y) mx rt else .codeWith (N.1 y) (N.2.1 y) mx rt (N.2.2.1 y)
def P_rm (d mc ms : Nat) : Room := { frames := d + 8, cells := mc, slots := ms, locals := 60 * d + 200 }
/-- a word that stays, but is not the kit's good word -/
def P_wm (w : Jvm.Cond) : Prop := (∀ (a a' : Array Value) (s U : State), s.vm = U.vm → w.before a s = true → w.before a' U = true) ∧ ∀ (a a' : Array Value) (s U : State), s.WarmedH U.vm → w.before a s = true → w.before a' U = true
theorem P_wm_mn {a : String} {i : Nat} {x : MethodName} {h : String} : P_wm (.methodLinkNest a i x h) := ⟨fun _ _ _ _ e q => va_Nw.use rfl (va_Nw.same rfl e (va_Nw.of rfl q)), fun _ _ _ _ e q => va_Nw.use rfl (va_Nw.warmM e (va_Nw.of rfl q))⟩
theorem P_wm_fn {a b n d h : String} {i : Nat} : P_wm (.fieldLinkNest a i b n d h) := ⟨fun _ _ _ _ e q => va_Nw.use rfl (va_Nw.same rfl e (va_Nw.of rfl q)), fun _ _ _ _ e q => va_Nw.use rfl (va_Nw.warmF e (va_Nw.of rfl q))⟩
theorem P_wm_de {x : MethodName} : P_wm (.declares x) := ⟨fun _ _ _ _ e q => va_Nw.use rfl (va_Nw.same rfl e (va_Nw.of rfl q)), fun _ _ _ _ e q => va_Nw.use rfl (va_Nw.warmD e (va_Nw.of rfl q))⟩
theorem P_wm_ca {C T : String} : P_wm (.castable C T) := ⟨fun _ _ _ _ e q => va_Nw.use rfl (va_Nw.same rfl e (va_Nw.of rfl q)), fun _ _ _ _ e q => va_Nw.use rfl (va_Nw.warmC e (va_Nw.of rfl q))⟩
theorem P_wm_ao {C : String} : P_wm (.arrayOver (.object C)) := ⟨fun _ _ _ _ e q => va_AO.use (va_AO.moved (by rw [e]; exact Vm.Alike.refl _) (va_AO.of q)), fun _ _ _ _ e q => va_AO.use (va_AO.moved e.alike (va_AO.of q))⟩
theorem P_ar_moved {t : FieldType} {a a' : Array Value} {u U : State} (hvm : u.vm.Alike U.vm) (h : (Jvm.Cond.arrayOver (.array t)).before a u = true) : (Jvm.Cond.arrayOver (.array t)).before a' U = true := by
  obtain ⟨comp, c, k, h1, h2, h3, h4, h5⟩ := arrayOverA_spec h
  obtain ⟨k', hk', he⟩ := hvm.2.2 _ _ h3
  have hi : (U.vm.classes.findIdx? fun (x : Class) => match x.kind with | .array component _ => component == comp | _ => false) = some c := by
    rw [hvm.findIdx?_eqK _ (fun _ => rfl)]
    exact h2
  have hkind : k'.kind = .array comp (.array t) := by rw [he]; exact h4
  have h1' : U.vm.findClass (FieldType.array t).toString = some comp := by rw [hvm.findClass]; exact h1
  have h5' : U.vm.findClass ("[" ++ (FieldType.array t).toString) = some c := by rw [hvm.findClass]; exact h5
  unfold Jvm.Cond.before Jvm.Cond.holds
  simp only [Jvm.Cond.value]
  rw [h1', Option.bind_some]
  refine (congrArg (fun o : Option Nat => (o.bind (fun c => (U.vm.classes[c]?).map fun (k : Class) => match k.kind with | .array _ ty => decide (ty = FieldType.array t) && decide (U.vm.findClass ("[" ++ (FieldType.array t).toString) = some c) | _ => false) == some true)) hi).trans ?_
  simp [hk', hkind, h5']
theorem P_wm_ar {t : FieldType} : P_wm (.arrayOver (.array t)) := ⟨fun _ _ _ _ e q => P_ar_moved (by rw [e]; exact Vm.Alike.refl _) q, fun _ _ _ _ e q => P_ar_moved e.alike q⟩
/-- what throwing and catching ask of a start, and the words that are carried beside the contracts' own -/
def P_Ex (nc : List (String × String)) (tx : List (String × Nat × String)) (T2 : List Jvm.Cond) (A : Nat → Prop) (U : State) (H : Heap) : Prop := (∀ w ∈ T2, w.before #[] U = true) ∧ (tx = [] ∨ (vx_Zq Bundle.tN "UNASSIGNED_STACK" Bundle.steD A U H ∧ vx_Zq Bundle.tN "SUPPRESSED_SENTINEL" Bundle.listD A U H)) ∧ (∀ x ∈ nc, va_Nc x.1 x.2 U) ∧ ∀ x ∈ tx, ∃ sa, vk_R x.1 x.2.1 x.2.2 sa U
/-- the world behind a call: its cells, and the rows that are never written -/
def P_Wc (cl : List vw_C) (aty : Nat → FieldType) (nro : Nat) (D : va_G) (A : Nat → Prop) (U : State) (H : Heap) (ro : List Nat) (ws : va_W) (tys : List (ClassId × FieldType)) (h : List P_E) : Prop :=
  va_P D cl ws H ∧ va_K D cl tys U ∧ va_D A ws ∧ h.length = nro + ws.length ∧
  (∀ (i q : Nat), ro[i]? = some q → ∃ (n : Nat) (f : Nat → Int32), h[i]? = some ((.inl (0, n, .inl f) : P_E)) ∧ va_T .int q n (fun j => .int (f j)) (fun _ => False) U H) ∧
  (∀ (i : Nat) (c : P_E) (q : Nat) (e : va_E), h[nro + i]? = some c → ws[i]? = some (q, e) → P_c aty tys (P_rho ro ws) c e)
section CT
variable (cl : List vw_C) (aty : Nat → FieldType) (nro : Nat) (stat : P_T) (nc : List (String × String)) (tx : List (String × Nat × String)) (T2 : List Jvm.Cond) (N : P_N)
def P_Pc (D : va_G) (as' : List Value) (ro : List Nat) (ws : va_W) (tys : List (ClassId × FieldType)) (h : List P_E) (sz : Nat) : Array Value → State → Prop := va_Pc as' (fun U => U.heap.size = sz ∧ P_Wd cl aty nro stat D (va_A ws sz) U U.heap [] ro ws tys h ∧ P_Ex nc tx T2 (va_A ws sz) U U.heap)
def P_Qc (D : va_G) (ro : List Nat) (ws : va_W) (sz : Nat) (r : P_R) (h1 : List P_E) : Array Value → State → Outcome → State → Prop := fun _ st o t => (∃ (v v' : Option Value) (ws' : va_W) (tys' : List (ClassId × FieldType)), r = .inl v ∧ o = .returned v' ∧ P_vo (P_rho ro ws') v v' ∧ P_sub (P_rho ro ws) (P_rho ro ws') ∧ P_Wc cl aty nro D (va_A ws sz) t t.heap ro ws' tys' h1) ∧ va_F (va_A ws sz) st t
def P_XC (D : va_G) (ro : List Nat) (ws : va_W) (sz : Nat) (r : P_R) (h1 : List P_E) : String → State → State → Prop := fun E st t => (∃ (k : Nat) (ws' : va_W) (tys' : List (ClassId × FieldType)), r = .inr k ∧ k < 3 ∧ E = N.2.2.2.2 k ∧ P_sub (P_rho ro ws) (P_rho ro ws') ∧ P_Wc cl aty nro D (va_A ws sz) t t.heap ro ws' tys' h1) ∧ va_F (va_A ws sz) st t
/-- a call's contract: from cells h the arguments as come to r and the cells h1 -/
def P_Ct (Tg : List Jvm.Cond) (l : Launch) (y d mx : Nat) (rt : Option FieldType) (as : List Value) (h : P_H) (r : P_R) (h1 : P_H) : Prop :=
  ∀ (D : va_G) (ro : List Nat) (ws : va_W) (tys : List (ClassId × FieldType)) (sz : Nat) (as' : List Value), P_vs (P_rho ro ws) as as' →
    vx_Met l (N.1 y) (P_cw N y mx rt :: Tg) (P_rm d (h1.2.1 - h.2.1) (h1.2.2 - h.2.2)) (P_Pc cl aty nro stat nc tx T2 D as' ro ws tys h.1 sz) (P_Qc cl aty nro D ro ws sz r h1.1) (P_XC cl aty nro N D ro ws sz r h1.1) (h1.2.1 - h.2.1) (h1.2.2 - h.2.2) (va_A ws sz)
/-- what the tables say of a call's place -/
def P_cok (Tb : List Jvm.Cond) (V : Nat → Nat → Option Nat) (own : String) (i : Instr) (r1 : Int) (r2 : Nat) : Prop := match i with
  | .invokestatic idx => r2 < 9000 → (∀ sig, parseMethodDescriptor (N.1 r2).desc = some sig → r1.toNat = sig.parameters.length) ∧ Jvm.Cond.initialized (N.1 r2).cls ∈ Tb ∧ Jvm.Cond.static (N.1 r2) ∈ Tb ∧ (Jvm.Cond.methodLink own idx (N.1 r2) ∈ Tb ∨ (N.2.2.1 r2 = [] ∧ ∃ host, Jvm.Cond.methodLinkNest own idx (N.1 r2) host ∈ Tb))
  | .invokespecial idx => r2 < 9000 → (∀ sig, parseMethodDescriptor (N.1 r2).desc = some sig → r1.toNat = sig.parameters.length) ∧ Jvm.Cond.initialized (N.1 r2).cls ∈ Tb ∧ Jvm.Cond.instanceMethod (N.1 r2) ∈ Tb ∧ (N.1 r2).name = "<init>" ∧ N.2.2.1 r2 = [] ∧ (Jvm.Cond.methodLink own idx (N.1 r2) ∈ Tb ∨ ∃ host, Jvm.Cond.methodLinkNest own idx (N.1 r2) host ∈ Tb)
  | .invokevirtual idx => ∀ ci y, V r2 ci = some y → ∃ r, cl[ci]? = some r ∧ N.2.2.1 y = [] ∧ Jvm.Cond.initialized (N.1 y).cls ∈ Tb ∧ Jvm.Cond.instanceMethod (N.1 y) ∈ Tb ∧
      (((∀ sig, parseMethodDescriptor (N.1 y).desc = some sig → r1.toNat = sig.parameters.length) ∧ Jvm.Cond.selects r.1 (N.1 y) (N.1 y) ∈ Tb ∧ (Jvm.Cond.methodLink own idx (N.1 y) ∈ Tb ∨ ∃ host, Jvm.Cond.methodLinkNest own idx (N.1 y) host ∈ Tb)) ∨
       ∃ (x : MethodName) (owner : String), (∀ sig, parseMethodDescriptor x.desc = some sig → r1.toNat = sig.parameters.length) ∧ (owner ≠ "java/lang/invoke/MethodHandle" ∧ owner ≠ "java/lang/invoke/VarHandle") ∧ Jvm.Cond.methodLink own idx x ∈ Tb ∧ Jvm.Cond.sameMethod x.cls owner x.name x.desc ∈ Tb ∧ Jvm.Cond.selects r.1 x (N.1 y) ∈ Tb ∧ ((Jvm.Cond.instanceMethod ⟨owner, x.name, x.desc⟩ ∈ Tb ∧ ∃ b m r, Jvm.Cond.code ⟨owner, x.name, x.desc⟩ b m r ∈ Tb) ∨ Jvm.Cond.declares ⟨owner, x.name, x.desc⟩ ∈ Tb))
  | _ => True
/-- what the tables say of a method -/
def P_mok (Tg : List Jvm.Cond) (y mx : Nat) (rt : Option FieldType) : Prop := plainName (N.1 y).cls = true ∧ ((N.1 y).cls ≠ "java/lang/invoke/MethodHandle" ∧ (N.1 y).cls ≠ "java/lang/invoke/VarHandle") ∧ P_cw N y mx rt ∈ Tg ∧ mx ≤ 40
end CT
theorem P_free {A : Nat → Prop} {s : State} {H : Heap} {locs : List Loc} {ws : va_W} (hD : va_D A ws) (hS : va_S A s.heap H locs) (hA : ∀ q, s.heap.size ≤ q → A q) : ∀ q, va_A ws H.size q → A q := by
  rintro q (⟨k, e, hk⟩ | hq)
  · exact hD.2 k _ hk
  · exact hA q (Nat.le_trans hS.1 hq)
section CL
variable {p : Program} {l : Launch} {e : Env} {R : Room} {s : State} {m : MethodId} {args : Array Value} {below : List Frame} {meth : Method} {c : Code} {H : Heap} {locs : List Loc} {cells slots : Nat} {Q : State → Prop} {cc : ByteArray} {pc nL : Nat} {ls : Array Slot} {rest : List Value} {L L1 st st1 st' : List Value}
variable {cl : List vw_C} {aty : Nat → FieldType} {nro : Nat} {stat : P_T} {nc : List (String × String)} {tx : List (String × Nat × String)} {T2 Tg : List Jvm.Cond} {N : P_N} {D : va_G} {A : Nat → Prop} {ro : List Nat} {ws : va_W} {tys : List (ClassId × FieldType)} {Z : P_Z} {Tb : List Jvm.Cond} {own : String} {ini : Bool} {r1 : Int} {r2 : Nat}
theorem P_Wd.moved {u U : State} {h : List P_E} (hh : u.heap = U.heap) (hvm : u.vm.Alike U.vm) (hW : P_Wd cl aty nro stat D A u u.heap [] ro ws tys h) : P_Wd cl aty nro stat D A U U.heap [] ro ws tys h := by
  obtain ⟨h1, h2, h3, h4, h5, h6, h7, h8, h9, h10⟩ := hW
  rw [hh] at h1 h4 h5 h8 h10
  exact ⟨h1, h2.moved hvm, h3, h4, h5, h6, h7, fun i q hq => by
    obtain ⟨n, f, g1, g2⟩ := h8 i q hq
    exact ⟨n, f, g1, g2.moved hvm⟩, h9, fun x hx => by
    obtain ⟨q, g1, g2⟩ := h10 x hx
    exact ⟨q, g1, g2.moved hvm⟩⟩
theorem P_Ex.blind {u U : State} (hw2 : ∀ w ∈ T2, P_wm w) (hh : u.heap = U.heap) (hvm : u.vm = U.vm) (h : P_Ex nc tx T2 A u u.heap) : P_Ex nc tx T2 A U U.heap := by
  obtain ⟨h0, h1, h2, h3⟩ := h
  rw [hh] at h1
  have hal : u.vm.Alike U.vm := by rw [hvm]; exact Vm.Alike.refl _
  exact ⟨fun w hw => (hw2 w hw).1 _ _ _ _ hvm (h0 w hw), h1.imp id fun q => ⟨q.1.moved hal, q.2.moved hal⟩, fun x hx => (h2 x hx).moved hal, fun x hx => by
    obtain ⟨sa, g⟩ := h3 x hx
    exact ⟨sa, g.same hvm.symm⟩⟩
theorem P_Pc_blind {as' : List Value} {h : List P_E} {sz : Nat} (hw2 : ∀ w ∈ T2, P_wm w) : FrameBlind (P_Pc cl aty nro stat nc tx T2 D as' ro ws tys h sz) := by
  rintro a U g mk ⟨h1, h2, h3, h4⟩
  exact ⟨h1, h2, h3.moved (u := U) (U := U.calling g mk a) rfl (Vm.Alike.refl _), h4.blind hw2 (u := U) (U := U.calling g mk a) rfl rfl⟩
/-- the world as a callee sees it -/
theorem P_Wd.enter {h : List P_E} (hw2 : ∀ w ∈ T2, P_wm w) (hW : P_Wd cl aty nro stat D A s H locs ro ws tys h) (hE : P_Ex nc tx T2 A s s.heap) {U : State} (hU : U.heap = H) (hw : s.WarmedH U.vm) : P_Wd cl aty nro stat D (va_A ws H.size) U U.heap [] ro ws tys h ∧ P_Ex nc tx T2 (va_A ws H.size) U U.heap := by
  obtain ⟨h1, h2, h3, h4, h5, h6, h7, h8, h9, h10⟩ := hW
  have hfr := P_free h3 h4 h5
  have hkeep : ∀ a : Nat, a < s.heap.size → ¬ A a → H[a]? = s.heap[a]? := h4.2.1
  subst hU
  refine ⟨⟨h1, h2.moved hw.alike, h3.self, va_S.rf, fun q hq => Or.inr hq, h6, h7, fun i q hq => ?_, h9, fun x hx => ?_⟩, fun w hw' => (hw2 w hw').2 _ _ _ _ hw (hE.1 w hw'), ?_, fun x hx => (hE.2.2.1 x hx).moved hw.alike, fun x hx => ?_⟩
  · obtain ⟨n, f, g1, g2⟩ := h8 i q hq
    exact ⟨n, f, g1, ((g2.kept hkeep).narrow hfr).moved hw.alike⟩
  · obtain ⟨q, g1, g2⟩ := h10 x hx
    exact ⟨q, g1, ((g2.kept hkeep).narrow hfr).moved hw.alike⟩
  · exact hE.2.1.imp id fun z => ⟨((z.1.kept hkeep).narrow hfr).moved hw.alike, ((z.2.kept hkeep).narrow hfr).moved hw.alike⟩
  · obtain ⟨sa, g⟩ := hE.2.2.2 x hx
    exact ⟨sa, g.warm hw⟩
/-- the world behind a call -/
theorem P_Wd.back {h h1 : List P_E} {t : State} {ws1 : va_W} {tys1 : List (ClassId × FieldType)} {H1 : Heap} {locs1 : List Loc} (hW : P_Wd cl aty nro stat D A s H locs ro ws tys h) (hc : P_Wc cl aty nro D (va_A ws H.size) t H1 ro ws1 tys1 h1) (hal : s.vm.Alike t.vm) (hk : ∀ q : Nat, q < H.size → ¬ va_A ws H.size q → H1[q]? = H[q]?) (hS : va_S A s.heap H1 locs1) : P_Wd cl aty nro stat D A s H1 locs1 ro ws1 tys1 h1 := by
  obtain ⟨h1, h2, h3, h4, h5, h6, h7, h8, h9, h10⟩ := hW
  obtain ⟨c1, c2, c3, c4, c5, c6⟩ := hc
  have hfr := P_free h3 h4 h5
  refine ⟨c1, c2.moved hal.symm, c3.weaken (fun k q hk hq => hfr _ hq), hS, h5, h6, c4, fun i q hq => ?_, c6, h10⟩
  obtain ⟨n, f, g1, g2⟩ := h8 i q hq
  obtain ⟨n', f', b1, b2⟩ := c5 i q hq
  refine ⟨n', f', b1, ?_⟩
  have g3 := g2.out
  have g4 : q < s.heap.size := by
    obtain ⟨cell, d1, -⟩ := g2
    exact (Array.getElem?_eq_some_iff.mp d1).1
  have e1 : s.heap[q]? = H1[q]? := by
    rw [hk q (Nat.lt_of_lt_of_le g4 h4.1) (fun z => g3 (hfr q z)), h4.2.1 q g4 g3]
  obtain ⟨cell, d1, d2, d3, d4, d5, d6, -⟩ := b2.moved hal.symm
  exact ⟨cell, by rw [e1]; exact d1, d2, d3, d4, d5, d6, g3⟩
set_option maxHeartbeats 1000000 in
/-- what a call comes to -/
theorem P_run_ok {h h1 : List P_E} {mc ms : Nat} {r : P_R} {st0 : List Value} {aa : Array Value} (hW : P_Wd cl aty nro stat D A s H locs ro ws tys h)
    (hr : vx_Run p l e R s m args below meth c H locs cells slots mc ms (F0 m pc ls st0) rest (P_Qc cl aty nro D ro ws H.size r h1 aa) (P_XC cl aty nro N D ro ws H.size r h1) (va_A ws H.size))
    (kr : ∀ (v v' : Option Value) (H1 : Heap) (locs1 : List Loc) (ws1 : va_W) (tys1 : List (ClassId × FieldType)), r = .inl v → P_vo (P_rho ro ws1) v v' → P_sub (P_rho ro ws) (P_rho ro ws1) → P_Wd cl aty nro stat D A s H1 locs1 ro ws1 tys1 h1 → W p l e R s m args below meth c H1 locs1 (cells + mc) (slots + ms) Q (F0 m (pc + 3) ls (v'.toList ++ rest)))
    (kx : ∀ (k q : Nat) (ce : Cell) (H1 : Heap) (locs1 : List Loc) (ws1 : va_W) (tys1 : List (ClassId × FieldType)), r = .inr k → k < 3 → H1[q]? = some ce → ce.vm = .none → s.vm.findClass (N.2.2.2.2 k) = some ce.cls → P_sub (P_rho ro ws) (P_rho ro ws1) → P_Wd cl aty nro stat D A s H1 locs1 ro ws1 tys1 h1 → vx_W p l e R s m args below meth c H1 locs1 (cells + mc) (slots + ms) Q (F0 m pc ls rest) q) :
    W p l e R s m args below meth c H locs cells slots Q (F0 m pc ls st0) := by
  intro T hT X
  have hfr := P_free hW.2.2.1 hW.2.2.2.1 hW.2.2.2.2.1
  rcases hr T hT X with ⟨v, st₀, t, T', L, h0, X', hL, e1, e2, ⟨⟨pv, pv', ws', tys', b1, b2, b3, b4, b5⟩, hF⟩, st⟩ | ⟨q, st₀, t, T', L, E, ce, h0, X', hL, e1, e2, ⟨⟨k, ws', tys', b1, bk, rfl, b3, b4⟩, hF⟩, hce, hcv, hcl, st⟩
  · cases b2
    obtain ⟨k1, k2, k3⟩ := vx_keep h0 e1 hW.2.2.2.1 (fun q _ hq => hfr q hq) hfr hL hF
    have hW1 := hW.back (by rw [← e1] at b5; exact b5) (by rw [← e2]; exact X'.warmed.alike) k2 k3
    obtain ⟨t2, a1, b1'⟩ := kr pv _ T'.heap (locs ++ L) ws' tys' b1 b3 b4 hW1 T' rfl X'
    exact ⟨t2, st t2 a1, b1'⟩
  · obtain ⟨k1, k2, k3⟩ := vx_keep h0 e1 hW.2.2.2.1 (fun q _ hq => hfr q hq) hfr hL hF
    have hW1 := hW.back (by rw [← e1] at b4; exact b4) (by rw [← e2]; exact X'.warmed.alike) k2 k3
    obtain ⟨t2, a1, b1'⟩ := kx k q ce T'.heap (locs ++ L) ws' tys' b1 bk (by rw [e1]; exact hce) hcv hcl b3 hW1 T' rfl X'
    exact ⟨t2, st.trans a1, b1'⟩
set_option maxHeartbeats 1000000 in
/-- a call, by its contract -/
theorem P_call_ok (hw2 : ∀ w ∈ T2, P_wm w) (hC : P_Cx (Tg ++ T2) own ini cc nL p s m args meth c) {h h1 : P_H} (hW : P_Wd cl aty nro stat D A s H locs ro ws tys h.1) (hE : P_Ex nc tx T2 A s s.heap) (hgood : ∀ w ∈ Tg, goodWord w = true) (hL : P_L (P_rho ro ws) L ls nL) {V : Nat → Nat → Option Nat} {i : Instr} (hok : P_cok cl N (Tg ++ T2) V own i r1 r2) (hdg : decode cc pc = .ok (i, 3)) (hst : P_vs (P_rho ro ws) st st') {y mx d : Nat} {rt : Option FieldType} {as r0 : List Value} (hh : P_inv V i r1 r2 st h = some (y, as, r0)) (hcs : P_cs r0 ≤ 8) {r : P_R} (hm : P_mok N Tg y mx rt) (hct : P_Ct cl aty nro stat nc tx T2 N Tg l y d mx rt as h r h1) (hRf : d + 9 ≤ R.frames) (hRl : 60 * d + 260 ≤ R.locals) (hrc : cells + (h1.2.1 - h.2.1) ≤ R.cells) (hrs : slots + (h1.2.2 - h.2.2) ≤ R.slots) (hvoid : ∀ (i : Nat) (t : FieldType), i = y → rt = some t → (N.1 i).name ≠ "<init>") :
    ∃ (as' rest : List Value) (aa : Array Value), P_vs (P_rho ro ws) r0 rest ∧ vx_Run p l e R s m args below meth c H locs cells slots (h1.2.1 - h.2.1) (h1.2.2 - h.2.2) (F0 m pc ls st') rest (P_Qc cl aty nro D ro ws H.size r h1.1 aa) (P_XC cl aty nro N D ro ws H.size r h1.1) (va_A ws H.size) := by
  obtain ⟨hx, hb, hml, hown, hts, -, -⟩ := hC
  have hS : CallFix p m c cc nL s args (Tg ++ T2) own := ⟨hx, hb, hml, hown, hts⟩
  have hsz : ls.size = nL := by
    obtain ⟨-, l0, g1, -⟩ := hL
    exact g1.1
  obtain ⟨m1, m2, m3, m4⟩ := hm
  have hwords : ∀ w ∈ P_cw N y mx rt :: Tg, ∀ (a' : Array Value) (U : State), s.WarmedH U.vm → w.before a' U = true := by
    intro w hw a' U hU
    have hw' : w ∈ Tg := by
      rcases List.mem_cons.mp hw with rfl | q
      · exact m3
      · exact q
    exact word_at hU (good_of_word (hgood w hw')) (hts w (List.mem_append_left _ hw'))
  have m3' := hts _ (List.mem_append_left T2 m3)
  have hroom : (P_rm d (h1.2.1 - h.2.1) (h1.2.2 - h.2.2)).frames + 1 ≤ R.frames ∧ 8 + (mx + 11) + (P_rm d (h1.2.1 - h.2.1) (h1.2.2 - h.2.2)).locals ≤ R.locals := by
    constructor <;> simp only [P_rm] <;> omega
  have hpre : ∀ as' : List Value, ∀ U : State, U.heap = H → s.WarmedH U.vm → P_Pc cl aty nro stat nc tx T2 D as' ro ws tys h.1 H.size as'.toArray U := by
    intro as' U hU hw
    exact ⟨rfl, by rw [hU], hW.enter hw2 hE hU hw⟩
  cases i with
  | invokestatic idx =>
    simp only [P_inv] at hh
    split at hh
    · next hcond =>
      cases hh
      obtain ⟨g1, g2, g3, g4⟩ := hok hcond.2
      have hv := (hst.take (n := r1.toNat)).rev
      have hlen : ((st'.take r1.toNat).reverse).length = r1.toNat := by
        rw [List.length_reverse, List.length_take, ← hst.len]; omega
      have hsplit : st' = (st'.take r1.toNat).reverse.reverse ++ st'.drop r1.toNat := by rw [List.reverse_reverse, List.take_append_drop]
      have hcat := P_cs_ok (hst.dropn (n := r1.toNat))
      have hM := hct D ro ws tys H.size _ hv
      refine ⟨(st'.take r1.toNat).reverse, st'.drop r1.toNat, (st'.take r1.toNat).reverse.toArray, hst.dropn, ?_⟩
      by_cases hmh : N.2.2.1 r2 = []
      · have hcw : P_cw N r2 mx rt = .code (N.1 r2) (N.2.1 r2) mx rt := if_pos hmh
        rw [hcw] at m3' hwords hM
        rcases g4 with g4 | ⟨-, host, g4⟩
        · exact vx_runS (As := (st'.take r1.toNat).reverse) hS hM ⟨⟨rfl, rfl, hroom.1, hroom.2, hwords, List.mem_cons_self, m3', hts _ g2, m2, g1, hts _ g4⟩, hts _ g3⟩ ⟨P_Pc_blind hw2, hpre _⟩ rfl hlen hsz hsplit (by show 2 * 0 + _ ≤ 8; omega) hdg ⟨hrc, hrs⟩
        · exact vx_runSN (As := (st'.take r1.toNat).reverse) hS hM ⟨⟨⟨rfl, rfl, hroom.1, hroom.2, hwords, List.mem_cons_self⟩, m3', hts _ g2, m2, g1, hts _ g4⟩, hts _ g3, trivial⟩ ⟨P_Pc_blind hw2, hpre _⟩ rfl hlen hsz hsplit (by show 2 * 0 + _ ≤ 8; omega) hdg ⟨hrc, hrs⟩
      · have hcw : P_cw N r2 mx rt = .codeWith (N.1 r2) (N.2.1 r2) mx rt (N.2.2.1 r2) := if_neg hmh
        rw [hcw] at m3' hwords hM
        rcases g4 with g4 | ⟨q, -⟩
        · exact vx_runSX (As := (st'.take r1.toNat).reverse) hS hM ⟨⟨rfl, rfl, hroom.1, hroom.2, hwords, List.mem_cons_self⟩, m3', hts _ g2, m2, g1, hts _ g4, hts _ g3⟩ ⟨P_Pc_blind hw2, hpre _⟩ rfl hlen hsz hsplit (by show 2 * 0 + _ ≤ 8; omega) hdg ⟨hrc, hrs⟩
        · exact absurd q hmh
    · cases hh
  | invokespecial idx =>
    simp only [P_inv] at hh
    split at hh
    · next hlt =>
      split at hh
      · next a r1' hdrop =>
        cases hh
        obtain ⟨g1, g2, g3, g4, g5, g6⟩ := hok hlt
        have hd := hst.dropn (n := r1.toNat)
        rw [hdrop] at hd
        obtain ⟨w, rest, hsp, h2, h3⟩ := P_vs_cons hd
        have hv0 : P_v (P_rho ro ws) (.ref a) w := h2
        obtain ⟨q, -, rfl⟩ := h2
        have hv := (hst.take (n := r1.toNat)).rev
        have hl0 : r1.toNat < st.length := by
          have := congrArg List.length hdrop
          rw [List.length_drop, List.length_cons] at this
          omega
        have hlen : ((st'.take r1.toNat).reverse).length = r1.toNat := by
          rw [List.length_reverse, List.length_take, ← hst.len]; omega
        have hsplit : st' = (st'.take r1.toNat).reverse.reverse ++ .ref q :: rest := by rw [List.reverse_reverse, ← hsp, List.take_append_drop]
        have hcat := P_cs_ok h3
        have hM := hct D ro ws tys H.size (.ref q :: (st'.take r1.toNat).reverse) ⟨hv0, hv⟩
        refine ⟨.ref q :: (st'.take r1.toNat).reverse, rest, (.ref q :: (st'.take r1.toNat).reverse).toArray, h3, ?_⟩
        have hcw : P_cw N r2 mx rt = .code (N.1 r2) (N.2.1 r2) mx rt := if_pos g5
        rw [hcw] at m3' hwords hM
        rcases rt with _ | rt
        · rcases g6 with g6 | ⟨host, g6⟩
          · exact vx_runI (As := (st'.take r1.toNat).reverse) (b := q) hS hM ⟨⟨rfl, rfl, hroom.1, hroom.2, hwords, List.mem_cons_self, m3', hts _ g2, m2, g1, hts _ g6⟩, g4, hts _ g3⟩ ⟨P_Pc_blind hw2, hpre _⟩ rfl hlen hsz hsplit (by show 2 * 0 + _ ≤ 8; omega) hdg ⟨hrc, hrs⟩
          · exact vx_runIN (As := (st'.take r1.toNat).reverse) (b := q) hS hM ⟨⟨⟨rfl, rfl, hroom.1, hroom.2, hwords, List.mem_cons_self⟩, m3', hts _ g2, m2, g1, hts _ g6⟩, g4, hts _ g3⟩ ⟨P_Pc_blind hw2, hpre _⟩ rfl hlen hsz hsplit (by show 2 * 0 + _ ≤ 8; omega) hdg ⟨hrc, hrs⟩
        · exact absurd g4 (hvoid _ _ rfl rfl)
      · cases hh
    · cases hh
  | invokevirtual idx =>
    simp only [P_inv] at hh
    split at hh
    · next a r1' hdrop =>
      split at hh
      · next ci fs hcell =>
        split at hh
        · next y' hV =>
          cases hh
          obtain ⟨rr, g0, g1, g2, g3, g4⟩ := hok ci _ hV
          have hd := hst.dropn (n := r1.toNat)
          rw [hdrop] at hd
          obtain ⟨w, rest, hsp, h2, h3⟩ := P_vs_cons hd
          have hv0 : P_v (P_rho ro ws) (.ref a) w := h2
          have ha : nro ≤ a := by
            by_cases hq : a < nro
            · obtain ⟨q, n', f', -, b1, -⟩ := hW.row hq h2
              cases b1.symm.trans hcell
            · exact Nat.le_of_not_lt hq
          obtain ⟨q, e1, rfl, h6, fs', rfl, h7⟩ := hW.at ha h2 hcell
          have hv := (hst.take (n := r1.toNat)).rev
          have hl0 : r1.toNat < st.length := by
            have := congrArg List.length hdrop
            rw [List.length_drop, List.length_cons] at this
            omega
          have hlen : ((st'.take r1.toNat).reverse).length = r1.toNat := by
            rw [List.length_reverse, List.length_take, ← hst.len]; omega
          have hsplit : st' = (st'.take r1.toNat).reverse.reverse ++ .ref q :: rest := by rw [List.reverse_reverse, ← hsp, List.take_append_drop]
          have hcat := P_cs_ok h3
          have hM := hct D ro ws tys H.size (.ref q :: (st'.take r1.toNat).reverse) ⟨hv0, hv⟩
          refine ⟨.ref q :: (st'.take r1.toNat).reverse, rest, (.ref q :: (st'.take r1.toNat).reverse).toArray, h3, ?_⟩
          have hcw : P_cw N y mx rt = .code (N.1 y) (N.2.1 y) mx rt := if_pos g1
          rw [hcw] at m3' hwords hM
          have hrecv := va_recv hW.2.1 hW.1 g0 h6
          rcases g4 with ⟨g4, g5, g6 | ⟨host, g6⟩⟩ | ⟨x, owner, g4, g5, g6, g7, g8, g9⟩
          · exact vx_runV (As := (st'.take r1.toNat).reverse) (b := q) hS hM ⟨⟨rfl, rfl, hroom.1, hroom.2, hwords, List.mem_cons_self, m3', hts _ g2, m2, g4, hts _ g6⟩, hts _ g3, hts _ g5⟩ ⟨P_Pc_blind hw2, hrecv, hpre _⟩ rfl hlen hsz hsplit (by show 2 * 0 + _ ≤ 8; omega) hdg ⟨hrc, hrs⟩
          · exact vx_runVN (As := (st'.take r1.toNat).reverse) (b := q) hS hM ⟨⟨⟨rfl, rfl, hroom.1, hroom.2, hwords, List.mem_cons_self⟩, m3', hts _ g2, m2, g4, hts _ g6⟩, hts _ g3, hts _ g5⟩ ⟨P_Pc_blind hw2, hrecv, hpre _⟩ rfl hlen hsz hsplit (by show 2 * 0 + _ ≤ 8; omega) hdg ⟨hrc, hrs⟩
          · have hdecl : va_Decl s ⟨owner, x.name, x.desc⟩ := by
              rcases g9 with ⟨b1, b, mm, r, b2⟩ | b1
              · exact va_Decl.of (hts _ b1) (hts _ b2)
              · obtain ⟨m0, meth0, q1, q2, q3, q4⟩ := Jvm.Cond.declares_spec (hts _ b1)
                exact ⟨m0, meth0, q1, q2, q3, q4⟩
            exact vx_runU (As := (st'.take r1.toNat).reverse) (b := q) (x := x) (owner := owner) hS hM ⟨⟨rfl, rfl, hroom.1, hroom.2, hwords, List.mem_cons_self⟩, m3', hts _ g2, g5, g4, hts _ g6, hts _ g7, hdecl, hts _ g8, hts _ g3⟩ ⟨P_Pc_blind hw2, hrecv, hpre _⟩ rfl hlen hsz hsplit (by show 2 * 0 + _ ≤ 8; omega) hdg ⟨hrc, hrs⟩
        · cases hh
      · cases hh
    · cases hh
  | _ => cases hh
end CL
