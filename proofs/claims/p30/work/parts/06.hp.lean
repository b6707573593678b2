/-! THE TIE, 5: what reads and writes cells -/
/-- a field's name at a place, for an object of the number ci -/
def P_fok (cl : List vw_C) (Tb : List Jvm.Cond) (own : String) (idx ci k : Nat) : Prop := ∃ (C : String) (T : u_T) (N : Nat) (ref : String), cl[ci]? = some (C, T, N) ∧ k < N ∧ (ref = (T k).1 ∨ Jvm.Cond.sameField ref (T k).1 (T k).2.1 (T k).2.2.1 ∈ Tb) ∧ (Jvm.Cond.fieldLink own idx ref (T k).2.1 (T k).2.2.1 ∈ Tb ∨ ∃ host, Jvm.Cond.fieldLinkNest own idx ref (T k).2.1 (T k).2.2.1 host ∈ Tb)
/-- the same for a write -/
def P_pok (cl : List vw_C) (Tb : List Jvm.Cond) (own : String) (ini : Bool) (idx ci k : Nat) : Prop := ∃ (C : String) (T : u_T) (N : Nat) (ref : String), cl[ci]? = some (C, T, N) ∧ k < N ∧ (ref = (T k).1 ∨ Jvm.Cond.sameField ref (T k).1 (T k).2.1 (T k).2.2.1 ∈ Tb) ∧ ((Jvm.Cond.fieldLink own idx ref (T k).2.1 (T k).2.2.1 ∈ Tb ∧ ((T k).2.2.2 = false ∨ ((T k).2.2.2 = true ∧ ini = true ∧ (T k).1 = own))) ∨ ∃ host, Jvm.Cond.fieldLinkNest own idx ref (T k).2.1 (T k).2.2.1 host ∈ Tb ∧ (T k).2.2.2 = false)
/-- what the tables say of the kinds of object -/
def P_clok (cl : List vw_C) (Z : P_Z) (Tb : List Jvm.Cond) : Prop := ∀ (ci : Nat) (C : String) (T : u_T) (N : Nat), cl[ci]? = some (C, T, N) → (∀ w ∈ u_ws C T N, w ∈ Tb) ∧ (∀ k, k < N → parseFieldDescriptor (T k).2.2.1 = some (Z.2.2 ci k)) ∧ (∀ a, a < N → ∀ b, b < N → a ≠ b → (T a).2.1 ≠ (T b).2.1) ∧ (Z.1 ci).length = N ∧ ∀ j, j < N → defaultValue (Z.2.2 ci j) = vp_V (Z.1 ci) j ∧ P_v [] ((Z.1 ci).getD j .null) ((Z.1 ci).getD j .null)
/-- what the types of rows are -/
def P_atok (cl : List vw_C) (aty : Nat → FieldType) : Prop := aty 0 = .int ∧ aty 1 = .long ∧ aty 2 = .double ∧ aty 3 = .boolean ∧ (∀ ci r, cl[ci]? = some r → aty (100 + ci) = .object r.1) ∧ (∀ k, 4 ≤ k → (∃ C, aty k = .object C) ∨ ∃ t, aty k = .array t) ∧ aty 200 = .array .int ∧ aty 201 = .array (.array .int)
/-- what the tables say of an instruction that meets cells -/
def P_iok (cl : List vw_C) (aty : Nat → FieldType) (Z : P_Z) (Tb : List Jvm.Cond) (stat : P_T) (own : String) (ini : Bool) (i : Instr) (r1 : Int) (r2 : Nat) : Prop := match i with
  | .getfield idx => ∀ ci, Z.2.1 r1.toNat ci = true → P_fok cl Tb own idx ci r2
  | .putfield idx => ∀ ci, Z.2.1 r1.toNat ci = true → P_pok cl Tb own ini idx ci r2
  | .newarray t => newarray.typeOf t = aty r2 ∧ Jvm.Cond.arrayClass (aty r2) ∈ Tb
  | .anewarray idx => (∃ C, aty r2 = .object C ∧ Jvm.Cond.classLink own idx C ∈ Tb ∧ Jvm.Cond.arrayOver (.object C) ∈ Tb) ∨ (∃ t, aty r2 = .array t ∧ Jvm.Cond.classLink own idx (FieldType.array t).toString ∈ Tb ∧ Jvm.Cond.arrayOver (.array t) ∈ Tb)
  | .new idx => r2 < 1000 → ∃ (C : String) (T : u_T) (N : Nat), cl[r2]? = some (C, T, N) ∧ Jvm.Cond.classLink own idx C ∈ Tb ∧ Jvm.Cond.instantiable C N ∈ Tb ∧ Jvm.Cond.initialized C ∈ Tb
  | .getstatic idx => ∃ (C ref n d : String), (C, n, d, r2) ∈ stat ∧ (Jvm.Cond.fieldLink own idx ref n d ∈ Tb ∨ ∃ host, Jvm.Cond.fieldLinkNest own idx ref n d host ∈ Tb) ∧ (ref = C ∨ Jvm.Cond.sameField ref C n d ∈ Tb)
  | .aastore => r2 = 1 → Jvm.Cond.arrayOver (.array .int) ∈ Tb ∧ Jvm.Cond.arrayOver (.array (.array .int)) ∈ Tb
  | .multianewarray idx d => r2 = 201 → d = 2 ∧ Jvm.Cond.classLink own idx ("[" ++ (FieldType.array (.array .int)).toString) ∈ Tb ∧ Jvm.Cond.arrayOver (.array (.array .int)) ∈ Tb ∧ Jvm.Cond.arrayOver (.array .int) ∈ Tb
  | .invokestatic idx => r2 = 9003 → Jvm.Cond.methodLink own idx arraycopyName ∈ Tb ∧ Jvm.Cond.native arraycopyName ∈ Tb ∧ Jvm.Cond.static arraycopyName ∈ Tb ∧ Jvm.Cond.initialized "java/lang/System" ∈ Tb ∧ Jvm.Cond.arrayOver (.array .int) ∈ Tb ∧ Jvm.Cond.arrayOver (.array (.array .int)) ∈ Tb
  | _ => True
/-- a method's frame -/
def P_Cx (Tb : List Jvm.Cond) (own : String) (ini : Bool) (cc : ByteArray) (nL : Nat) (p : Program) (s : State) (m : MethodId) (args : Array Value) (meth : Method) (c : Code) : Prop :=
  p.tables.exec = Jvm.exec ∧ c.code = cc ∧ c.maxLocals = nL ∧ s.vm.findClass own = some m.cls ∧ (∀ w ∈ Tb, w.before args s = true) ∧ meth.locks = false ∧ (ini = true → meth.name = "<init>")
section HP
variable {p : Program} {l : Launch} {e : Env} {R : Room} {s : State} {m : MethodId} {args : Array Value} {below : List Frame} {meth : Method} {c : Code} {H : Heap} {locs : List Loc} {cells slots : Nat} {Q : State → Prop} {cc : ByteArray} {pc nL : Nat} {ls : Array Slot} {rest : List Value} {L L1 st st1 st' : List Value}
variable {cl : List vw_C} {aty : Nat → FieldType} {nro : Nat} {stat : P_T} {D : va_G} {A : Nat → Prop} {ro : List Nat} {ws : va_W} {tys : List (ClassId × FieldType)} {h h1 : P_H} {Z : P_Z} {Tb : List Jvm.Cond} {own : String} {ini : Bool}
theorem P_hsame {args : Array Value} {s : State} {Tb : List Jvm.Cond} (hts : ∀ w ∈ Tb, w.before args s = true) {ref C n d : String} (h : ref = C ∨ Jvm.Cond.sameField ref C n d ∈ Tb) : ∀ x, s.fieldFound? C n d = some x → s.fieldFound? ref n d = some x := by
  rcases h with rfl | h
  · exact fun _ q => q
  · exact fun x q => u_same (hts _ h) x q
theorem P_ix_ok {j : Int32} {n k : Nat} (h : P_ix j n = some k) : vp_in j n ∧ k = j.toNatClampNeg := by
  unfold P_ix at h
  split at h
  · cases h
  · next hq => exact ⟨hq, (Option.some.inj h).symm⟩
set_option maxHeartbeats 4000000 in
theorem P_getf_ok (hC : P_Cx Tb own ini cc nL p s m args meth c) (hW : P_Wd cl aty nro stat D A s H locs ro ws tys h.1) (hcl : P_clok cl Z Tb) {idx : Nat} {r1 : Int} {r2 : Nat} (hok : P_iok cl aty Z Tb stat own ini (.getfield idx) r1 r2) (hdg : decode cc pc = .ok (.getfield idx, 3)) (hst : P_vs (P_rho ro ws) st st') (hh : P_hp Z nro (.getfield idx) r1 r2 st h = some (st1, h1))
    (k : ∀ ws' : List Value, P_vs (P_rho ro ws) st1 ws' → h1 = h → W p l e R s m args below meth c H locs cells slots Q (F0 m (pc + 3) ls ws')) : W p l e R s m args below meth c H locs cells slots Q (F0 m pc ls st') := by
  obtain ⟨hx, hb, -, hown, hts, -, -⟩ := hC
  simp only [P_hp] at hh
  split at hh
  · next a r =>
    split at hh
    · next ci fs hc =>
      split at hh
      · next hcond =>
        split at hh
        · next v hv =>
          cases hh
          obtain ⟨w, ws2, rfl, h2, h3⟩ := P_vs_cons hst
          obtain ⟨q, e1, rfl, h4, fs', rfl, h5⟩ := hW.at hcond.1 h2 hc
          obtain ⟨C, T, N, ref, g1, g2, g3, g4⟩ := hok ci hcond.2
          obtain ⟨w', hw1, hw2⟩ := h5.get hv
          have hin : ∀ x ∈ u_ws C T N, x ∈ Tb := (hcl ci C T N g1).1
          rcases g4 with g4 | ⟨host, g4⟩
          · exact va_get (D := D) (cl := cl) hx hb hts hin hown hW.2.1 hW.1 _ h4 g1 r2 g2 (hts _ g4) (P_hsame hts g3) hw1 hdg (k _ ⟨hw2, h3⟩ rfl)
          · exact va_getN (D := D) (cl := cl) hx hb hts hin hown hW.2.1 hW.1 _ h4 g1 r2 g2 (hts _ g4) (P_hsame hts g3) hw1 hdg (k _ ⟨hw2, h3⟩ rfl)
        · cases hh
      · cases hh
    · cases hh
  · cases hh
set_option maxHeartbeats 4000000 in
theorem P_putf_ok (hC : P_Cx Tb own ini cc nL p s m args meth c) (hW : P_Wd cl aty nro stat D A s H locs ro ws tys h.1) (hcl : P_clok cl Z Tb) {idx : Nat} {r1 : Int} {r2 : Nat} (hok : P_iok cl aty Z Tb stat own ini (.putfield idx) r1 r2) (hdg : decode cc pc = .ok (.putfield idx, 3)) (hst : P_vs (P_rho ro ws) st st') (hh : P_hp Z nro (.putfield idx) r1 r2 st h = some (st1, h1))
    (k : ∀ (H1 : Heap) (locs1 : List Loc) (ws1 : va_W) (ws' : List Value), P_rho ro ws1 = P_rho ro ws → P_Wd cl aty nro stat D A s H1 locs1 ro ws1 tys h1.1 → h1.2 = h.2 → P_vs (P_rho ro ws) st1 ws' → W p l e R s m args below meth c H1 locs1 cells slots Q (F0 m (pc + 3) ls ws')) : W p l e R s m args below meth c H locs cells slots Q (F0 m pc ls st') := by
  obtain ⟨hx, hb, -, hown, hts, -, hini⟩ := hC
  simp only [P_hp] at hh
  split at hh
  · next v a r =>
    split at hh
    · next ci fs hc =>
      split at hh
      · next hcond =>
        cases hh
        obtain ⟨w, ws2, rfl, h2, h3⟩ := P_vs_cons hst
        obtain ⟨w2, ws3, rfl, h4, h5⟩ := P_vs_cons h3
        obtain ⟨q, e1, rfl, h6, fs', rfl, h7⟩ := hW.at hcond.1 h4 hc
        obtain ⟨C, T, N, ref, g1, g2, g3, g4⟩ := hok ci hcond.2.1
        obtain ⟨c1, c2, c3, c4, -⟩ := hcl ci C T N g1
        obtain ⟨f1, f2⟩ := P_fits_ok hcond.2.2.1 h2
        have hlen : r2 < fs'.length := by rw [← h7.len]; exact hcond.2.2.2
        have kk : ∀ (H1 : Heap) (locs1 : List Loc), va_P D cl (ws.set (a - nro) (q, .inr (ci, fs'.set r2 w))) H1 → va_D A (ws.set (a - nro) (q, .inr (ci, fs'.set r2 w))) → va_S A s.heap H1 locs1 → W p l e R s m args below meth c H1 locs1 cells slots Q (F0 m (pc + 3) ls ws3) := fun H1 locs1 hP hD hS =>
          k H1 locs1 _ _ (P_rho_set h6) (hW.set hcond.1 h6 hP hD hS ⟨_, rfl, h7.set h2⟩) rfl h5
        rcases g4 with ⟨g4, g5 | ⟨g5, g6, g7⟩⟩ | ⟨host, g4, g5⟩
        · exact va_put (D := D) (cl := cl) hx hb hts c1 (Z.2.2 ci) c2 c3 hown hW.2.1 hW.1 hW.2.2.1 hW.2.2.2.1 _ h6 g1 r2 g2 (hts _ g4) (P_hsame hts g3) g5 (c2 r2 g2) f1 f2 hlen hdg kk
        · exact va_putF (D := D) (cl := cl) hx hb hts c1 (Z.2.2 ci) c2 c3 hown hW.2.1 hW.1 hW.2.2.1 hW.2.2.2.1 _ h6 g1 r2 g2 (hts _ g4) (P_hsame hts g3) g5 (hini g6) g7 (c2 r2 g2) f1 f2 hlen hdg kk
        · exact va_putN (D := D) (cl := cl) hx hb hts c1 (Z.2.2 ci) c2 c3 hown hW.2.1 hW.1 hW.2.2.1 hW.2.2.2.1 _ h6 g1 r2 g2 (hts _ g4) (P_hsame hts g3) g5 (c2 r2 g2) f1 f2 hlen hdg kk
      · cases hh
    · cases hh
  · cases hh
end HP
