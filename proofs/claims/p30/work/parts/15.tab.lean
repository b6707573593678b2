/-! TABLES: how the methods' code is written down, and how it is checked -/
def P_at {α : Type} (l : List (List α)) (d : α) (y : Nat) : α := (((l[y / 20]?).getD [])[y % 20]?).getD d
def P_lk (l : List (List (Nat × P_I))) (pc : Nat) : Option P_I := ((l[pc / 32]?).getD []).lookup pc
theorem P_lookup_mem {β : Type} : ∀ {l : List (Nat × β)} {k : Nat} {x : β}, l.lookup k = some x → (k, x) ∈ l
  | [], _, _, h => by cases h
  | (a, b) :: l, k, x, h => by
    rw [List.lookup_cons] at h
    split at h
    · next hk =>
      cases h
      have : k = a := by simpa using hk
      subst this
      exact List.mem_cons_self
    · exact List.mem_cons_of_mem _ (P_lookup_mem h)
theorem P_lk_mem {l : List (List (Nat × P_I))} {pc : Nat} {x : P_I} (h : P_lk l pc = some x) : ∃ ch ∈ l, (pc, x) ∈ ch := by
  unfold P_lk at h
  cases hq : l[pc / 32]? with
  | none => rw [hq] at h; cases h
  | some ch =>
    rw [hq] at h
    exact ⟨ch, List.mem_of_getElem? hq, P_lookup_mem h⟩
def P_chk (b : ByteArray) (q : Nat × P_I) : Bool := match decode b q.1 with
  | .ok (i, len) => decide (i = q.2.1) && (match i with
    | .tableswitch dflt _ _ offs => decide (0 ≤ (q.1 : Int) + dflt) && offs.toList.all (fun o => decide (0 ≤ (q.1 : Int) + o))
    | i => decide (len = P_len i) && decide (q.2.2.1 = q.1 + len) && (match P_off i with
      | some o => decide ((q.1 : Int) + o = (q.2.2.2.2.1 : Int))
      | none => true))
  | .error _ => false
theorem P_chk_ok {b : ByteArray} {pc : Nat} {i : Instr} {nx : Nat} {r1 : Int} {r2 : Nat} {kN kT : List Nat} (h : P_chk b (pc, i, nx, r1, r2, kN, kT) = true) :
    (P_isw i = true → (∃ len, decode b pc = .ok (i, len)) ∧ ∀ dflt lo hi offs, i = .tableswitch dflt lo hi offs → 0 ≤ (pc : Int) + dflt ∧ ∀ o ∈ offs.toList, 0 ≤ (pc : Int) + o) ∧
    (P_isw i = false → decode b pc = .ok (i, P_len i) ∧ nx = pc + P_len i) ∧ (∀ o, P_off i = some o → (pc : Int) + o = (r2 : Int)) := by
  unfold P_chk at h
  simp only at h
  split at h
  · next i' len hd =>
    rw [Bool.and_eq_true, decide_eq_true_eq] at h
    obtain ⟨rfl, h⟩ := h
    split at h
    · next dflt lo hi offs =>
      rw [Bool.and_eq_true, decide_eq_true_eq, List.all_eq_true] at h
      refine ⟨fun _ => ⟨⟨len, hd⟩, ?_⟩, fun hq => (by cases hq), fun o ho => (by cases ho)⟩
      intro d2 lo2 hi2 offs2 he
      cases he
      exact ⟨h.1, fun o ho => by simpa using h.2 o ho⟩
    · next hns =>
      rw [Bool.and_eq_true, Bool.and_eq_true, decide_eq_true_eq, decide_eq_true_eq] at h
      obtain ⟨⟨rfl, h2⟩, h3⟩ := h
      refine ⟨fun hq => ?_, fun _ => ⟨hd, h2⟩, fun o ho => ?_⟩
      · exfalso
        cases i' <;> simp [P_isw] at hq
        exact hns _ _ _ _ rfl
      · rw [ho] at h3
        simpa using h3
  · cases h
section LNK
variable (cl : List vw_C) (aty : Nat → FieldType) (stat : P_T) (nc : List (String × String)) (tx : List (String × Nat × String)) (N : P_N) (Tb : List Jvm.Cond) (Y : P_Y)
/-- what the tables say of one instruction's names -/
def P_lnk (own : String) (ini : Bool) (cc : ByteArray) (hh : List (Nat × Nat × Nat × Nat)) (pc : Nat) (i : Instr) (r1 : Int) (r2 : Nat) : Prop :=
  P_ldm Tb own i r1 r2 ∧ P_iok cl aty Y.1 Tb stat own ini i r1 r2 ∧ P_jok Tb own i r2 ∧ P_cok cl N Tb Y.2.2.2 own i r1 r2 ∧ P_tok Tb tx N own cc hh pc i r2
end LNK
section LNK2
variable {cl : List vw_C} {aty : Nat → FieldType} {stat : P_T} {nc : List (String × String)} {tx : List (String × Nat × String)} {N : P_N} {Tb : List Jvm.Cond} {Y : P_Y} {own : String} {ini : Bool} {cc : ByteArray} {hh : List (Nat × Nat × Nat × Nat)} {pc : Nat} {r1 : Int} {r2 : Nat}
/-- an instruction without names -/
def P_nl (i : Instr) : Bool := match i with
  | .ldc _ | .ldc_w _ | .ldc2_w _ | .getfield _ | .putfield _ | .newarray _ | .anewarray _ | .new _ | .getstatic _ | .invokestatic _ | .invokespecial _ | .invokevirtual _ | .aastore | .multianewarray _ _ => false
  | _ => true
theorem P_lnk_nl {i : Instr} (h : P_nl i = true) : P_lnk cl aty stat tx N Tb Y own ini cc hh pc i r1 r2 := by
  cases i <;> first | (simp [P_nl] at h; done) | exact ⟨trivial, trivial, trivial, trivial, trivial⟩
theorem P_lnk_ldc {k : Nat} (h : Jvm.Cond.constant own k (Int32.ofInt r1) ∈ Tb) : P_lnk cl aty stat tx N Tb Y own ini cc hh pc (.ldc k) r1 r2 := ⟨h, trivial, trivial, trivial, trivial⟩
theorem P_lnk_ldcw {k : Nat} (h : Jvm.Cond.constant own k (Int32.ofInt r1) ∈ Tb) : P_lnk cl aty stat tx N Tb Y own ini cc hh pc (.ldc_w k) r1 r2 := ⟨h, trivial, trivial, trivial, trivial⟩
theorem P_lnk_ldl {k : Nat} (h : Jvm.Cond.constantLong own k (Int64.ofInt r1) ∈ Tb) : P_lnk cl aty stat tx N Tb Y own ini cc hh pc (.ldc2_w k) r1 0 := ⟨h, trivial, trivial, trivial, trivial⟩
theorem P_lnk_ldd {k : Nat} (h : Jvm.Cond.constantDouble own k (UInt64.ofNat r1.toNat) ∈ Tb) : P_lnk cl aty stat tx N Tb Y own ini cc hh pc (.ldc2_w k) r1 1 := ⟨h, trivial, trivial, trivial, trivial⟩
theorem P_lnk_get {k : Nat} (h : ∀ ci, Y.1.2.1 r1.toNat ci = true → P_fok cl Tb own k ci r2) : P_lnk cl aty stat tx N Tb Y own ini cc hh pc (.getfield k) r1 r2 := ⟨trivial, h, trivial, trivial, trivial⟩
theorem P_lnk_put {k : Nat} (h : ∀ ci, Y.1.2.1 r1.toNat ci = true → P_pok cl Tb own ini k ci r2) : P_lnk cl aty stat tx N Tb Y own ini cc hh pc (.putfield k) r1 r2 := ⟨trivial, h, trivial, trivial, trivial⟩
theorem P_lnk_nwa {t : ArrayType} (h : newarray.typeOf t = aty r2) (h2 : Jvm.Cond.arrayClass (aty r2) ∈ Tb) : P_lnk cl aty stat tx N Tb Y own ini cc hh pc (.newarray t) r1 r2 := ⟨trivial, ⟨h, h2⟩, trivial, trivial, trivial⟩
theorem P_lnk_anw {k : Nat} {C : String} (h : aty r2 = .object C) (h2 : Jvm.Cond.classLink own k C ∈ Tb) (h3 : Jvm.Cond.arrayOver (.object C) ∈ Tb) : P_lnk cl aty stat tx N Tb Y own ini cc hh pc (.anewarray k) r1 r2 := ⟨trivial, Or.inl ⟨C, h, h2, h3⟩, trivial, trivial, trivial⟩
theorem P_lnk_anr {k : Nat} {t : FieldType} (h : aty r2 = .array t) (h2 : Jvm.Cond.classLink own k (FieldType.array t).toString ∈ Tb) (h3 : Jvm.Cond.arrayOver (.array t) ∈ Tb) : P_lnk cl aty stat tx N Tb Y own ini cc hh pc (.anewarray k) r1 r2 := ⟨trivial, Or.inr ⟨t, h, h2, h3⟩, trivial, trivial, trivial⟩
theorem P_lnk_new {k : Nat} {C : String} {T : u_T} {n : Nat} (h0 : r2 < 1000) (h : cl[r2]? = some (C, T, n)) (h1 : Jvm.Cond.classLink own k C ∈ Tb) (h2 : Jvm.Cond.instantiable C n ∈ Tb) (h3 : Jvm.Cond.initialized C ∈ Tb) : P_lnk cl aty stat tx N Tb Y own ini cc hh pc (.new k) r1 r2 := ⟨trivial, fun _ => ⟨C, T, n, h, h1, h2, h3⟩, trivial, trivial, fun q => absurd h0 (Nat.not_lt.mpr q |> fun z => by omega)⟩
theorem P_lnk_thr {k : Nat} (h0 : 1000 ≤ r2) (h : P_tok Tb tx N own cc hh pc (.new k) r2) : P_lnk cl aty stat tx N Tb Y own ini cc hh pc (.new k) r1 r2 := ⟨trivial, fun q => absurd h0 (Nat.not_le.mpr q), trivial, trivial, h⟩
theorem P_lnk_gst {k : Nat} {C ref n d : String} (h : (C, n, d, r2) ∈ stat) (h2 : Jvm.Cond.fieldLink own k ref n d ∈ Tb ∨ ∃ host, Jvm.Cond.fieldLinkNest own k ref n d host ∈ Tb) (h3 : ref = C ∨ Jvm.Cond.sameField ref C n d ∈ Tb) : P_lnk cl aty stat tx N Tb Y own ini cc hh pc (.getstatic k) r1 r2 := ⟨trivial, ⟨C, ref, n, d, h, h2, h3⟩, trivial, trivial, trivial⟩
theorem P_lnk_st {k : Nat} (h0 : r2 < 9000) (h : P_cok cl N Tb Y.2.2.2 own (.invokestatic k) r1 r2) : P_lnk cl aty stat tx N Tb Y own ini cc hh pc (.invokestatic k) r1 r2 := ⟨trivial, fun q => by omega, ⟨fun q => by omega, fun q => by omega⟩, h, trivial⟩
theorem P_lnk_sj {k : Nat} (h0 : 9000 ≤ r2 ∧ r2 ≠ 9003) (h : P_jok Tb own (.invokestatic k) r2) : P_lnk cl aty stat tx N Tb Y own ini cc hh pc (.invokestatic k) r1 r2 := ⟨trivial, fun q => absurd q h0.2, h, fun q => by omega, trivial⟩
theorem P_lnk_cpy {k : Nat} (h1 : Jvm.Cond.methodLink own k arraycopyName ∈ Tb) (h2 : Jvm.Cond.native arraycopyName ∈ Tb) (h3 : Jvm.Cond.static arraycopyName ∈ Tb) (h4 : Jvm.Cond.initialized "java/lang/System" ∈ Tb) (h5 : Jvm.Cond.arrayOver (.array .int) ∈ Tb) (h6 : Jvm.Cond.arrayOver (.array (.array .int)) ∈ Tb) : P_lnk cl aty stat tx N Tb Y own ini cc hh pc (.invokestatic k) r1 9003 := ⟨trivial, fun _ => ⟨h1, h2, h3, h4, h5, h6⟩, ⟨fun q => by omega, fun q => by omega⟩, fun q => by omega, trivial⟩
theorem P_lnk_as0 (h : r2 ≠ 1) : P_lnk cl aty stat tx N Tb Y own ini cc hh pc .aastore r1 r2 := ⟨trivial, fun q => absurd q h, trivial, trivial, trivial⟩
theorem P_lnk_as1 (h5 : Jvm.Cond.arrayOver (.array .int) ∈ Tb) (h6 : Jvm.Cond.arrayOver (.array (.array .int)) ∈ Tb) : P_lnk cl aty stat tx N Tb Y own ini cc hh pc .aastore r1 r2 := ⟨trivial, fun _ => ⟨h5, h6⟩, trivial, trivial, trivial⟩
theorem P_lnk_mna {k : Nat} (h1 : Jvm.Cond.classLink own k ("[" ++ (FieldType.array (.array .int)).toString) ∈ Tb) (h2 : Jvm.Cond.arrayOver (.array (.array .int)) ∈ Tb) (h3 : Jvm.Cond.arrayOver (.array .int) ∈ Tb) : P_lnk cl aty stat tx N Tb Y own ini cc hh pc (.multianewarray k 2) r1 r2 := ⟨trivial, fun _ => ⟨rfl, h1, h2, h3⟩, trivial, trivial, trivial⟩
theorem P_lnk_sp {k : Nat} (h0 : r2 < 9000) (h : P_cok cl N Tb Y.2.2.2 own (.invokespecial k) r1 r2) : P_lnk cl aty stat tx N Tb Y own ini cc hh pc (.invokespecial k) r1 r2 := ⟨trivial, trivial, fun q => by omega, h, trivial⟩
theorem P_lnk_oj {k : Nat} (h : P_jok Tb own (.invokespecial k) 9000) : P_lnk cl aty stat tx N Tb Y own ini cc hh pc (.invokespecial k) r1 9000 := ⟨trivial, trivial, h, fun q => by omega, trivial⟩
theorem P_lnk_vi {k : Nat} (h : P_cok cl N Tb Y.2.2.2 own (.invokevirtual k) r1 r2) : P_lnk cl aty stat tx N Tb Y own ini cc hh pc (.invokevirtual k) r1 r2 := ⟨trivial, trivial, trivial, h, trivial⟩
/-- a method without handlers -/
theorem P_hok_nil {E0 : Nat} : P_hok Tb nc N own cc [] E0 [] := by
  intro E hE
  show ∀ z ∈ tableOf [], _
  intro z hz
  cases hz
/-- a method that is no one else's, chosen for an object of a kind below: out of other words -/
theorem P_sel_sub {C C' : String} {x' y y' : MethodName} {n : Nat} {args : Array Value} {s : State} (hy : y.cls ≠ "java/lang/invoke/MethodHandle" ∧ y.cls ≠ "java/lang/invoke/VarHandle") (hins : (Jvm.Cond.instantiable C n).before args s = true) (hpriv : (Jvm.Cond.privateMethod y).before args s = true) (hinst : (Jvm.Cond.instanceMethod y).before args s = true) (hoth : (Jvm.Cond.selects C' x' y').before args s = true) (hcls : y'.cls = y.cls) : (Jvm.Cond.selects C y y).before args s = true := by
  obtain ⟨c, k, hc, hk, -, -, -, -⟩ := Jvm.Cond.instantiable_spec hins
  obtain ⟨mk, methM, hnamed, hmethM, -, -⟩ := Jvm.Cond.instanceMethod_spec hinst
  have hfound : s.methodFound? y.cls y.name y.desc = some mk := State.methodFound?_of_named hnamed hy
  have hsel : selectMethod {} s.vm c mk = .method mk := selectMethod_private hmethM (Jvm.Cond.privateMethod_at hpriv mk methM hnamed hmethM)
  obtain ⟨c2, r2, m2, -, -, q3, -, kP, hkP, hkPi⟩ := Jvm.Cond.selects_spec hoth
  have e1 := findClass_of_methodNamed q3
  rw [hcls] at e1
  have hcl : mk.cls = m2.cls := Option.some.inj ((findClass_of_methodNamed hnamed).symm.trans e1)
  rw [← hcl] at hkP
  simp only [Jvm.Cond.before, Jvm.Cond.holds, Jvm.Cond.value, hc, hfound, hnamed, hsel, hkP]
  simp
  exact hkPi
/-- handlers written down beside the class file's: from, to, handler, the pool's entry, the thrown one, the pc behind the store, its local -/
theorem P_hok_par (hnc : ∀ E E', E < 3 → E' < 3 → E ≠ E' → (N.2.2.2.2 E, N.2.2.2.2 E') ∈ nc) : ∀ (l : List (Nat × Nat × Nat × Nat × Nat × Nat × Nat)) (pre : List ExceptionTableEntry), (∀ q ∈ l, q.2.2.2.1 ≠ 0 ∧ q.2.2.2.2.1 < 3 ∧ Jvm.Cond.classLink own q.2.2.2.1 (N.2.2.2.2 q.2.2.2.2.1) ∈ Tb ∧ Jvm.Cond.castable (N.2.2.2.2 q.2.2.2.2.1) (N.2.2.2.2 q.2.2.2.2.1) ∈ Tb ∧ ((decode cc q.2.2.1 = .ok (.astore q.2.2.2.2.2.2, 2) ∧ q.2.2.2.2.2.1 = q.2.2.1 + 2) ∨ ∃ k' : Fin 4, decode cc q.2.2.1 = .ok (.astore_n k', 1) ∧ q.2.2.2.2.2.2 = k'.val ∧ q.2.2.2.2.2.1 = q.2.2.1 + 1)) →
    ∀ (E : Nat), E < 3 → (∀ z ∈ pre, covers z pc = false ∨ (z.catchType ≠ 0 ∧ ∃ nm : String, Jvm.Cond.classLink own z.catchType nm ∈ Tb ∧ (N.2.2.2.2 E, nm) ∈ nc)) → tableOf hh = pre ++ tableOf (l.map fun q => (q.1, q.2.1, q.2.2.1, q.2.2.2.1)) →
    match P_find E pc (l.map fun q => (q.1, q.2.1, q.2.2.2.2.1, q.2.2.2.2.2.1, q.2.2.2.2.2.2)) with
    | some (p, k) => ∃ (pre : List ExceptionTableEntry) (x : ExceptionTableEntry) (suf : List ExceptionTableEntry) (name : String), tableOf hh = pre ++ x :: suf ∧ (∀ z ∈ pre, covers z pc = false ∨ (z.catchType ≠ 0 ∧ ∃ nm : String, Jvm.Cond.classLink own z.catchType nm ∈ Tb ∧ (N.2.2.2.2 E, nm) ∈ nc)) ∧ covers x pc = true ∧ x.catchType ≠ 0 ∧ Jvm.Cond.classLink own x.catchType name ∈ Tb ∧ Jvm.Cond.castable (N.2.2.2.2 E) name ∈ Tb ∧ ((decode cc x.handlerPc = .ok (.astore k, 2) ∧ p = x.handlerPc + 2) ∨ ∃ k' : Fin 4, decode cc x.handlerPc = .ok (.astore_n k', 1) ∧ k = k'.val ∧ p = x.handlerPc + 1)
    | none => ∀ z ∈ tableOf hh, covers z pc = false ∨ (z.catchType ≠ 0 ∧ ∃ nm : String, Jvm.Cond.classLink own z.catchType nm ∈ Tb ∧ (N.2.2.2.2 E, nm) ∈ nc) := by
  intro l
  induction l with
  | nil =>
    intro pre _ E hE hpre ht
    show ∀ z ∈ tableOf hh, _
    rw [ht]
    intro z hz
    rcases List.mem_append.mp hz with q | q
    · exact hpre z q
    · cases q
  | cons a l ih =>
    intro pre hl E hE hpre ht
    obtain ⟨f, t, hp, ct, x, p, k⟩ := a
    obtain ⟨a1, a2, a3, a4, a5⟩ := hl _ List.mem_cons_self
    simp only at a1 a2 a3 a4 a5
    simp only [List.map_cons, P_find]
    by_cases hc : f ≤ pc ∧ pc < t ∧ x = E
    · rw [if_pos hc]
      obtain ⟨c1, c2, rfl⟩ := hc
      exact ⟨pre, ⟨f, t, hp, ct⟩, _, _, ht, hpre, by simp [covers, c1, c2], a1, a3, a4, a5⟩
    · rw [if_neg hc]
      refine ih (pre ++ [⟨f, t, hp, ct⟩]) (fun q hq => hl q (List.mem_cons_of_mem _ hq)) E hE ?_ (by rw [ht, List.append_assoc]; rfl)
      intro z hz
      rcases List.mem_append.mp hz with q | q
      · exact hpre z q
      · have hz' : z = ⟨f, t, hp, ct⟩ := by simpa using q
        subst hz'
        by_cases hr : f ≤ pc ∧ pc < t
        · refine Or.inr ⟨a1, _, a3, hnc E x hE a2 (fun e => hc ⟨hr.1, hr.2, e.symm⟩)⟩
        · refine Or.inl ?_
          simp only [covers]
          simp only [Bool.and_eq_false_iff, decide_eq_false_iff_not]
          omega
theorem P_look_all {β : Type} {P : Nat → β → Prop} : ∀ {l : List (Nat × β)}, (∀ q ∈ l, P q.1 q.2) → ∀ k x, l.lookup k = some x → P k x := fun h k x hk => h (k, x) (P_lookup_mem hk)
theorem P_all_nil {α : Type} {P : α → Prop} : ∀ q ∈ ([] : List α), P q := fun _ h => nomatch h
theorem P_all_cons {α : Type} {P : α → Prop} {a : α} {l : List α} (h : P a) (t : ∀ q ∈ l, P q) : ∀ q ∈ a :: l, P q := List.forall_mem_cons.mpr ⟨h, t⟩
def P_ieq (a b : Nat × P_I) : Bool := decide (a.1 = b.1) && (decide (a.2.1 = b.2.1) && (decide (a.2.2.1 = b.2.2.1) && (decide (a.2.2.2.1 = b.2.2.2.1) && (decide (a.2.2.2.2.1 = b.2.2.2.2.1) && decide (a.2.2.2.2.2 = b.2.2.2.2.2)))))
theorem P_ieq_ok {a b : Nat × P_I} (h : P_ieq a b = true) : a = b := by
  obtain ⟨a1, a2, a3, a4, a5, a6⟩ := a
  obtain ⟨b1, b2, b3, b4, b5, b6⟩ := b
  simp only [P_ieq, Bool.and_eq_true, decide_eq_true_eq] at h
  obtain ⟨rfl, rfl, rfl, rfl, rfl, rfl⟩ := h
  rfl
/-- what of a list of instructions has names, in order -/
def P_leq : List (Nat × P_I) → List (Nat × P_I) → Bool
  | [], l => l.isEmpty
  | q :: r, l => if P_nl q.2.1 = true then P_leq r l else match l with
    | [] => false
    | x :: l => P_ieq q x && P_leq r l
theorem P_leq_ok : ∀ {r l : List (Nat × P_I)}, P_leq r l = true → ∀ q ∈ r, P_nl q.2.1 = false → q ∈ l
  | [], _, _, q, hq, _ => by cases hq
  | x :: r, l, h, q, hq, hn => by
    unfold P_leq at h
    rcases List.mem_cons.mp hq with rfl | hq
    · rw [if_neg (by simp [hn])] at h
      split at h
      · cases h
      · rw [Bool.and_eq_true] at h
        rw [P_ieq_ok h.1]
        exact List.mem_cons_self
    · split at h
      · exact P_leq_ok h q hq hn
      · split at h
        · cases h
        · rw [Bool.and_eq_true] at h
          exact List.mem_cons_of_mem _ (P_leq_ok h.2 q hq hn)
/-- a whole method, by its written code -/
theorem P_meth {Tg : List Jvm.Cond} {y mx : Nat} {rt : Option FieldType} {ch : List (List (Nat × P_I))} {hs : List (Nat × Nat × Nat × Nat × Nat)} (own : String) (ini : Bool) (cc : ByteArray) (hh : List (Nat × Nat × Nat × Nat)) (h1 : (N.1 y).cls = own) (h2 : N.2.1 y = cc) (h3 : N.2.2.1 y = hh) (h4 : N.2.2.2.1 y = ini) (hp : plainName own = true) (hn : own ≠ "java/lang/invoke/MethodHandle" ∧ own ≠ "java/lang/invoke/VarHandle") (hw : y ≠ 0 → P_cw N y mx rt ∈ Tg) (hm : mx ≤ 40) (hi : ∀ t, rt = some t → (N.1 y).name ≠ "<init>") (hin : ini = true → (N.1 y).name = "<init>")
    (hc : ∀ c ∈ ch, c.all (P_chk cc) = true) (lk : List (Nat × P_I)) (hlk : P_leq ch.flatten lk = true) (hl : ∀ q ∈ lk, P_lnk cl aty stat tx N Tb Y own ini cc hh q.1 q.2.1 q.2.2.2.1 q.2.2.2.2.1) (hk : ∀ pc, (P_lk ch pc).isSome = true → P_hok Tb nc N own cc hh pc hs) :
    (y ≠ 0 → P_mok N Tg y mx rt) ∧ (∀ t, rt = some t → (N.1 y).name ≠ "<init>") ∧ (N.2.2.2.1 y = true → (N.1 y).name = "<init>") ∧ ∀ pc i nx r1 r2 kN kT, P_lk ch pc = some (i, nx, r1, r2, kN, kT) → P_eok cl aty stat nc tx N Tb Y y hs pc i nx r1 r2 := by
  subst h1; subst h2; subst h3; subst h4
  refine ⟨fun hy => ⟨hp, hn, hw hy, hm⟩, hi, hin, ?_⟩
  intro pc i nx r1 r2 kN kT he
  obtain ⟨c, hcm, hq⟩ := P_lk_mem he
  have g1 := List.all_eq_true.mp (hc c hcm) _ hq
  obtain ⟨a1, a2, a3⟩ := P_chk_ok g1
  have hL : P_lnk cl aty stat tx N Tb Y (N.1 y).cls (N.2.2.2.1 y) (N.2.1 y) (N.2.2.1 y) pc i r1 r2 := by
    cases g3 : P_nl i with
    | true => exact P_lnk_nl g3
    | false =>
      exact hl (pc, i, nx, r1, r2, kN, kT) (P_leq_ok hlk _ (List.mem_flatten.mpr ⟨c, hcm, hq⟩) g3)
  obtain ⟨b1, b2, b3, b4, b5⟩ := hL
  exact ⟨a1, a2, a3, b1, b2, b3, b4, b5, hk pc (by rw [he]; rfl)⟩
end LNK2
/-- no reference among what fields hold at first -/
def P_pl (v : Value) : Bool := match v with
  | .ref _ => false
  | .retAddr _ => false
  | _ => true
theorem P_pl_ok {l : List Value} (h : l.all P_pl = true) (j : Nat) : P_v [] (l.getD j .null) (l.getD j .null) := by
  have : P_pl (l.getD j .null) = true := by
    rw [List.getD_eq_getElem?_getD]
    cases hq : l[j]? with
    | none => rfl
    | some v => exact List.all_eq_true.mp h v (List.mem_of_getElem? hq)
  generalize l.getD j .null = v at this
  cases v <;> first | rfl | (simp [P_pl] at this)
