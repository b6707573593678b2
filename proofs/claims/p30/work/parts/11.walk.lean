/-! THE TIE, 10: a method's walk -/
def P_isw (i : Instr) : Bool := match i with
  | .tableswitch _ _ _ _ => true
  | _ => false
def P_ldm (Tb : List Jvm.Cond) (own : String) (i : Instr) (r1 : Int) (r2 : Nat) : Prop := match i with
  | .ldc k => Jvm.Cond.constant own k (Int32.ofInt r1) ∈ Tb
  | .ldc_w k => Jvm.Cond.constant own k (Int32.ofInt r1) ∈ Tb
  | .ldc2_w k => if r2 = 0 then Jvm.Cond.constantLong own k (Int64.ofInt r1) ∈ Tb else Jvm.Cond.constantDouble own k (UInt64.ofNat r1.toNat) ∈ Tb
  | _ => True
theorem P_ldm_ok {Tb : List Jvm.Cond} {own : String} {i : Instr} {r1 : Int} {r2 : Nat} {args : Array Value} {s : State} (hts : ∀ w ∈ Tb, w.before args s = true) (h : P_ldm Tb own i r1 r2) : P_ldok own i r1 r2 args s := by
  cases i <;> simp only [P_ldok] <;> first | trivial | (exact hts _ h) | skip
  split
  · next hq => simp only [P_ldm, if_pos hq] at h; exact hts _ h
  · next hq => simp only [P_ldm, if_neg hq] at h; exact hts _ h
/-- what the tables say of a throw -/
def P_tok (Tb : List Jvm.Cond) (tx : List (String × Nat × String)) (N : P_N) (own : String) (cc : ByteArray) (hh : List (Nat × Nat × Nat × Nat)) (pc : Nat) (i : Instr) (r2 : Nat) : Prop := match i with
  | .new ik => 1000 ≤ r2 → ∃ (text : String) (is ic : Nat) (B : List String), B.length = 2 ∧ hh = [] ∧ Bundle.fit (N.2.2.2.2 (r2 - 1000)) = true ∧ (∀ n ∈ B, Bundle.fit n = true) ∧ Jvm.Cond.classLink own ik (N.2.2.2.2 (r2 - 1000)) ∈ Tb ∧ Jvm.Cond.initialized (N.2.2.2.2 (r2 - 1000)) ∈ Tb ∧ (own, is, text) ∈ tx ∧ (∀ w ∈ vx_atS own ic (N.2.2.2.2 (r2 - 1000)) B, w ∈ Tb) ∧ (∀ w ∈ Jvm.Cond.classLink own ik (N.2.2.2.2 (r2 - 1000)) :: Jvm.Cond.initialized (N.2.2.2.2 (r2 - 1000)) :: vx_atS own ic (N.2.2.2.2 (r2 - 1000)) B, vx_ot w = true) ∧ decode cc (pc + 3) = .ok (.dup, 1) ∧ ((decode cc (pc + 4) = .ok (.ldc is, 2) ∧ decode cc (pc + 6) = .ok (.invokespecial ic, 3) ∧ decode cc (pc + 9) = .ok (.athrow, 1)) ∨ (decode cc (pc + 4) = .ok (.ldc_w is, 3) ∧ decode cc (pc + 7) = .ok (.invokespecial ic, 3) ∧ decode cc (pc + 10) = .ok (.athrow, 1)))
  | _ => True
/-- what the tables say of the handlers at a place -/
def P_hok (Tb : List Jvm.Cond) (nc : List (String × String)) (N : P_N) (own : String) (cc : ByteArray) (hh : List (Nat × Nat × Nat × Nat)) (pc : Nat) (hs : List (Nat × Nat × Nat × Nat × Nat)) : Prop := ∀ E, E < 3 → match P_find E pc hs with
  | some (p, k) => ∃ (pre : List ExceptionTableEntry) (x : ExceptionTableEntry) (suf : List ExceptionTableEntry) (name : String), tableOf hh = pre ++ x :: suf ∧ (∀ z ∈ pre, covers z pc = false ∨ (z.catchType ≠ 0 ∧ ∃ nm : String, Jvm.Cond.classLink own z.catchType nm ∈ Tb ∧ (N.2.2.2.2 E, nm) ∈ nc)) ∧ covers x pc = true ∧ x.catchType ≠ 0 ∧ Jvm.Cond.classLink own x.catchType name ∈ Tb ∧ Jvm.Cond.castable (N.2.2.2.2 E) name ∈ Tb ∧ ((decode cc x.handlerPc = .ok (.astore k, 2) ∧ p = x.handlerPc + 2) ∨ ∃ k' : Fin 4, decode cc x.handlerPc = .ok (.astore_n k', 1) ∧ k = k'.val ∧ p = x.handlerPc + 1)
  | none => ∀ z ∈ tableOf hh, covers z pc = false ∨ (z.catchType ≠ 0 ∧ ∃ nm : String, Jvm.Cond.classLink own z.catchType nm ∈ Tb ∧ (N.2.2.2.2 E, nm) ∈ nc)
/-- what the tables say of one instruction -/
def P_eok (cl : List vw_C) (aty : Nat → FieldType) (stat : P_T) (nc : List (String × String)) (tx : List (String × Nat × String)) (N : P_N) (Tb : List Jvm.Cond) (Y : P_Y) (y : Nat) (hs : List (Nat × Nat × Nat × Nat × Nat)) (pc : Nat) (i : Instr) (nx : Nat) (r1 : Int) (r2 : Nat) : Prop :=
  (P_isw i = true → (∃ len, decode (N.2.1 y) pc = .ok (i, len)) ∧ ∀ dflt lo hi offs, i = .tableswitch dflt lo hi offs → 0 ≤ (pc : Int) + dflt ∧ ∀ o ∈ offs.toList, 0 ≤ (pc : Int) + o) ∧
  (P_isw i = false → decode (N.2.1 y) pc = .ok (i, P_len i) ∧ nx = pc + P_len i) ∧
  (∀ o, P_off i = some o → (pc : Int) + o = (r2 : Int)) ∧ P_ldm Tb (N.1 y).cls i r1 r2 ∧ P_iok cl aty Y.1 Tb stat (N.1 y).cls (N.2.2.2.1 y) i r1 r2 ∧ P_jok Tb (N.1 y).cls i r2 ∧ P_cok cl N Tb Y.2.2.2 (N.1 y).cls i r1 r2 ∧ P_tok Tb tx N (N.1 y).cls (N.2.1 y) (N.2.2.1 y) pc i r2 ∧ P_hok Tb nc N (N.1 y).cls (N.2.1 y) (N.2.2.1 y) pc hs
/-- what the tables say of all -/
def P_ok (cl : List vw_C) (aty : Nat → FieldType) (stat : P_T) (nc : List (String × String)) (tx : List (String × Nat × String)) (N : P_N) (Tg T2 : List Jvm.Cond) (Y : P_Y) : Prop :=
  P_clok cl Y.1 (Tg ++ T2) ∧ P_atok cl aty ∧ (∀ w ∈ Tg, goodWord w = true) ∧ (∀ w ∈ T2, P_wm w) ∧ (∀ y mx rt cd hs, Y.2.2.1 y = some (mx, rt, cd, hs) → (y ≠ 0 → P_mok N Tg y mx rt) ∧ (∀ t, rt = some t → (N.1 y).name ≠ "<init>") ∧ (N.2.2.2.1 y = true → (N.1 y).name = "<init>") ∧ ∀ pc i nx r1 r2 kN kT, cd pc = some (i, nx, r1, r2, kN, kT) → P_eok cl aty stat nc tx N (Tg ++ T2) Y y hs pc i nx r1 r2)
section HPOK
variable {p : Program} {l : Launch} {e : Env} {R : Room} {s : State} {m : MethodId} {args : Array Value} {below : List Frame} {meth : Method} {c : Code} {H : Heap} {locs : List Loc} {cells slots : Nat} {Q : State → Prop} {cc : ByteArray} {pc nL : Nat} {ls : Array Slot} {rest : List Value} {L L1 st st1 st' : List Value}
variable {cl : List vw_C} {aty : Nat → FieldType} {nro : Nat} {stat : P_T} {D : va_G} {A : Nat → Prop} {ro : List Nat} {ws : va_W} {tys : List (ClassId × FieldType)} {h h1 : P_H} {Z : P_Z} {Tb : List Jvm.Cond} {own : String} {ini : Bool} {r1 : Int} {r2 : Nat}
theorem P_sub_rf {ρ : List Nat} : P_sub ρ ρ := fun _ _ h => h
set_option maxHeartbeats 2000000 in
theorem P_hp_mono {i : Instr} (hh : P_hp Z nro i r1 r2 st h = some (st1, h1)) : h.2.1 ≤ h1.2.1 ∧ h.2.2 ≤ h1.2.2 := by
  unfold P_hp at hh
  split at hh
  all_goals repeat' split at hh
  all_goals first | (cases hh; done) | (cases hh; exact ⟨Nat.le_refl _, Nat.le_refl _⟩) | (cases hh; exact ⟨Nat.le_succ _, Nat.le_add_right _ _⟩) | (cases hh; exact ⟨by simp only [P_mna]; omega, Nat.le_add_right _ _⟩) | (obtain ⟨kx, -, hh⟩ := P_bind_some hh; cases hh; exact ⟨Nat.le_refl _, Nat.le_refl _⟩) | skip
  all_goals unfold P_new at hh
  all_goals split at hh
  all_goals first | (cases hh; done) | (cases hh; exact ⟨Nat.le_succ _, Nat.le_add_right _ _⟩)
set_option maxHeartbeats 2000000 in
theorem P_hp_ok (hC : P_Cx Tb own ini cc nL p s m args meth c) (hW : P_Wd cl aty nro stat D A s H locs ro ws tys h.1) (hcl : P_clok cl Z Tb) (hat : P_atok cl aty) (hL : P_L (P_rho ro ws) L ls nL) (hf : 1 ≤ R.frames) (hl : 100 ≤ R.locals) {i : Instr} (hok : P_iok cl aty Z Tb stat own ini i r1 r2) (hdg : decode cc pc = .ok (i, P_len i)) (hst : P_vs (P_rho ro ws) st st') (hh : P_hp Z nro i r1 r2 st h = some (st1, h1)) (hrc : cells + h1.2.1 ≤ R.cells + h.2.1) (hrs : slots + h1.2.2 ≤ R.slots + h.2.2)
    (k : ∀ (H1 : Heap) (locs1 : List Loc) (ws1 : va_W) (tys1 : List (ClassId × FieldType)) (ws' : List Value) (cells1 slots1 : Nat), P_sub (P_rho ro ws) (P_rho ro ws1) → P_Wd cl aty nro stat D A s H1 locs1 ro ws1 tys1 h1.1 → cells1 + h.2.1 = cells + h1.2.1 → slots1 + h.2.2 = slots + h1.2.2 → P_vs (P_rho ro ws1) st1 ws' → W p l e R s m args below meth c H1 locs1 cells1 slots1 Q (F0 m (pc + P_len i) ls ws')) : W p l e R s m args below meth c H locs cells slots Q (F0 m pc ls st') := by
  have kr : ∀ ws' : List Value, P_vs (P_rho ro ws) st1 ws' → h1 = h → W p l e R s m args below meth c H locs cells slots Q (F0 m (pc + P_len i) ls ws') := by
    intro ws' h2 h3
    subst h3
    exact k H locs ws tys ws' cells slots P_sub_rf hW rfl rfl h2
  have kw : ∀ (H1 : Heap) (locs1 : List Loc) (ws1 : va_W) (ws' : List Value), P_rho ro ws1 = P_rho ro ws → P_Wd cl aty nro stat D A s H1 locs1 ro ws1 tys h1.1 → h1.2 = h.2 → P_vs (P_rho ro ws) st1 ws' → W p l e R s m args below meth c H1 locs1 cells slots Q (F0 m (pc + P_len i) ls ws') := by
    intro H1 locs1 ws1 ws' e1 h2 e2 h3
    exact k H1 locs1 ws1 tys ws' cells slots (by rw [e1]; exact P_sub_rf) h2 (by rw [e2]) (by rw [e2]) (by rw [e1]; exact h3)
  cases i with
  | getfield idx => exact P_getf_ok hC hW hcl hok hdg hst hh kr
  | putfield idx => exact P_putf_ok hC hW hcl hok hdg hst hh kw
  | iaload => exact P_ald_ok hC hW hat (Or.inl rfl) hdg hst hh kr
  | baload => exact P_ald_ok hC hW hat (Or.inr (Or.inl rfl)) hdg hst hh kr
  | laload => exact P_ald_ok hC hW hat (Or.inr (Or.inr (Or.inl rfl))) hdg hst hh kr
  | daload => exact P_ald_ok hC hW hat (Or.inr (Or.inr (Or.inr (Or.inl rfl)))) hdg hst hh kr
  | aaload => exact P_ald_ok hC hW hat (Or.inr (Or.inr (Or.inr (Or.inr rfl)))) hdg hst hh kr
  | iastore => exact P_ast_ok hC hW hat (Or.inl rfl) hok hdg hst hh kw
  | bastore => exact P_ast_ok hC hW hat (Or.inr (Or.inl rfl)) hok hdg hst hh kw
  | lastore => exact P_ast_ok hC hW hat (Or.inr (Or.inr (Or.inl rfl))) hok hdg hst hh kw
  | dastore => exact P_ast_ok hC hW hat (Or.inr (Or.inr (Or.inr (Or.inl rfl)))) hok hdg hst hh kw
  | aastore => exact P_ast_ok hC hW hat (Or.inr (Or.inr (Or.inr (Or.inr rfl)))) hok hdg hst hh kw
  | arraylength => exact P_alen_ok hC hW hdg hst hh kr
  | getstatic idx => exact P_gets_ok hC hW hok hdg hst hh kr
  | new idx => exact P_new_ok hC hW hcl hat (Or.inl ⟨idx, rfl⟩) hok hdg hst hh hrc hrs (fun H1 ws1 tys1 ws' c1 s1 => k H1 locs ws1 tys1 ws' c1 s1)
  | newarray t => exact P_new_ok hC hW hcl hat (Or.inr (Or.inl ⟨t, rfl⟩)) hok hdg hst hh hrc hrs (fun H1 ws1 tys1 ws' c1 s1 => k H1 locs ws1 tys1 ws' c1 s1)
  | anewarray idx => exact P_new_ok hC hW hcl hat (Or.inr (Or.inr ⟨idx, rfl⟩)) hok hdg hst hh hrc hrs (fun H1 ws1 tys1 ws' c1 s1 => k H1 locs ws1 tys1 ws' c1 s1)
  | multianewarray idx dd => exact P_mna_ok hC hW hat hok hdg hst hh hrc hrs (fun H1 ws1 tys1 ws' c1 s1 => k H1 locs ws1 tys1 ws' c1 s1)
  | invokestatic idx => exact P_copy_ok hC hW hat hL hok hdg hst hh hf hl kw
  | _ => cases hh
theorem P_ret_len {rt : Option FieldType} {i : Instr} {v : Option Value} (h : P_ret rt i st = some v) : P_len i = 1 ∧ P_isw i = false := by
  unfold P_ret at h
  split at h <;> first | exact ⟨rfl, rfl⟩ | cases h
theorem P_jdk_len {i : Instr} (h : P_jdk i r2 st = some st1) : P_len i = 3 ∧ P_isw i = false := by
  unfold P_jdk at h
  split at h <;> first | exact ⟨rfl, rfl⟩ | cases h
theorem P_inv_len {V : Nat → Nat → Option Nat} {i : Instr} {x : Nat × List Value × List Value} (h : P_inv V i r1 r2 st h1 = some x) : P_len i = 3 ∧ P_isw i = false := by
  unfold P_inv at h
  split at h <;> first | exact ⟨rfl, rfl⟩ | cases h
theorem P_op_sw {i : Instr} {x : List Value × List Value} (h : P_op i r1 r2 L st = some x) : P_isw i = false := by
  cases i <;> first | rfl | cases h
theorem P_br_sw {i : Instr} {x : Bool × List Value} (h : P_br i st = some x) : P_isw i = false := by
  cases i <;> first | rfl | cases h
theorem P_hp_sw {i : Instr} {x : List Value × P_H} (h : P_hp Z nro i r1 r2 st h1 = some x) : P_isw i = false := by
  cases i <;> first | rfl | cases h
theorem P_sw_sw {i : Instr} {x : Nat × List Value} (h : P_sw i pc st = some x) : P_isw i = true := by
  cases i <;> first | rfl | cases h
end HPOK
