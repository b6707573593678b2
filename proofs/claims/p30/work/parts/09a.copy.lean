/-! THE TIE, 6a: rows of rows; copying -/
section CP
variable {p : Program} {l : Launch} {e : Env} {R : Room} {s : State} {m : MethodId} {args : Array Value} {below : List Frame} {meth : Method} {c : Code} {H H0 : Heap} {locs : List Loc} {cells slots : Nat} {Q : State → Prop} {cc : ByteArray} {pc nL : Nat} {ls : Array Slot} {rest : List Value} {L L1 st st1 st' : List Value}
variable {cl : List vw_C} {aty : Nat → FieldType} {nro : Nat} {stat : P_T} {D : va_G} {A : Nat → Prop} {ro : List Nat} {ws : va_W} {tys : List (ClassId × FieldType)} {h h1 : P_H} {Z : P_Z} {Tb : List Jvm.Cond} {own : String} {ini : Bool} {r1 : Int} {r2 : Nat}
theorem P_cellv {cE : ClassId} {a : vp_A} : (vp_cell cE a).cls = cE ∧ (vp_cell cE a).vm = .none := by
  obtain ⟨n, g | g | g | g | g⟩ := a <;> exact ⟨rfl, rfl⟩
/-- the kind of a row of rows: its component is the class of the rows in it -/
theorem P_comp {t : FieldType} {cA cE : ClassId} {t0 : Nat} (hK : va_K D cl tys s) (hover : (Jvm.Cond.arrayOver (.array t)).before args s = true) (hA : tys[t0]? = some (cA, .array t)) (hname : s.vm.findClass (FieldType.array t).toString = some cE) : ∃ kA kE, s.vm.classes[cA]? = some kA ∧ kA.kind = .array cE (.array t) ∧ s.vm.classes[cE]? = some kE := by
  obtain ⟨comp, cB, kB, h1, -, h2, h3, h4⟩ := arrayOverA_spec hover
  have e1 : s.vm.findClass ("[" ++ (FieldType.array t).toString) = some cA := (hK.2 t0 _ hA).2
  cases h4.symm.trans e1
  cases h1.symm.trans hname
  obtain ⟨kE, hkE, -⟩ := Vm.findClass_spec hname
  exact ⟨kB, kE, h2, h3, hkE⟩
/-- a row put into a row of rows -/
theorem P_astA (hx : p.tables.exec = Jvm.exec) (hb : c.code = cc) (hK : va_K D cl tys s) (hP : va_P D cl ws H) (hD : va_D A ws) (hS : va_S A H0 H locs) {t : FieldType} (hover : (Jvm.Cond.arrayOver (.array t)).before args s = true) (q0 t0 qk : Nat) {a v n : Nat} {cA cE : ClassId} {w : vp_A} {f : Nat → Option Nat} (ha : ws[q0]? = some (a, .inl (cA, n, .inr (.inr (.inr (.inr f)))))) (ht : tys[t0]? = some (cA, .array t)) (hv : ws[qk]? = some (v, .inl (cE, w))) (hname : s.vm.findClass (FieldType.array t).toString = some cE) {i : Int32} (hin : vp_in i n) (hdg : decode cc pc = .ok (.aastore, 1))
    (kk : ∀ (H1 : Heap) (locs1 : List Loc), va_P D cl (ws.set q0 (a, .inl (cA, n, .inr (.inr (.inr (.inr (va_up f i.toNatClampNeg (some v)))))))) H1 → va_D A (ws.set q0 (a, .inl (cA, n, .inr (.inr (.inr (.inr (va_up f i.toNatClampNeg (some v)))))))) → va_S A H0 H1 locs1 → W p l e R s m args below meth c H1 locs1 cells slots Q (F0 m (pc + 1) ls rest)) : W p l e R s m args below meth c H locs cells slots Q (F0 m pc ls (.ref v :: .int i :: .ref a :: rest)) := by
  have hlt : i.toNatClampNeg < n := Nat.not_le.mp fun q => hin (Or.inr q)
  have h0 : ¬ i < 0 := fun q => hin (Or.inl q)
  obtain ⟨kA, kE, g1, g2, g3⟩ := P_comp hK hover ht hname
  have hvc : H[v]? = some (vp_cell cE w) := hP qk _ hv
  refine W.aast hx hb (hP q0 _ ha) (fun q hq => by cases hq) (fun hq => by cases hq) g1 g2 rfl g3 ⟨h0, by show _ < (arrV _ _ _).slots.size; rw [arrV_size]; exact hlt⟩ hvc (fun q hq => by rw [P_cellv.2] at hq; cases hq) (by rw [P_cellv.1]; exact g3) (by rw [P_cellv.1]; exact va_asg _ _) rfl rfl hdg fun H1 e1 z oq => ?_
  refine kk H1 _ (hP.set hD ha ?_ oq) (hD.set ha) (hS.put z oq (hD.2 q0 _ ha))
  show H1[a]? = some (vp_cell _ _)
  rw [e1, vp_cell_q, vp_cell_q, arrV_store]
  congr 2
  funext q
  by_cases hq : q = i.toNatClampNeg
  · subst hq
    simp [updV, va_up, va_rf]
  · simp [updV, va_up, hq]
theorem P_nn {z : Int32} (hz : ¬ z < 0) : z.toInt = (z.toNatClampNeg : Int) := by
  have h1 : (0 : Int) ≤ z.toInt := by
    have := Int32.le_iff_toInt_le.mp (Int32.not_lt.mp hz)
    simpa using this
  show z.toInt = ((z.toInt.toNat : Nat) : Int)
  omega
/-- rows of one row of rows laid into another -/
theorem P_copyA (hx : p.tables.exec = Jvm.exec) (hb : c.code = cc) (hml : c.maxLocals = ls.size) {index : Nat} (hown : s.vm.findClass own = some m.cls) (hlink : (Jvm.Cond.methodLink own index arraycopyName).before args s = true) (hnat : (Jvm.Cond.native arraycopyName).before args s = true) (hstat : (Jvm.Cond.static arraycopyName).before args s = true) (hini : (Jvm.Cond.initialized "java/lang/System").before args s = true)
    (hK : va_K D cl tys s) (hP : va_P D cl ws H) (hD : va_D A ws) (hS : va_S A H0 H locs) {t : FieldType} (hover : (Jvm.Cond.arrayOver (.array t)).before args s = true) (q0 q1 t0 t1 : Nat) {a a0 n0 n1 : Nat} {c0 c1 : ClassId} {f g : Nat → Option Nat} (ha0 : ws[q0]? = some (a0, .inl (c0, n0, .inr (.inr (.inr (.inr f)))))) (ha1 : ws[q1]? = some (a, .inl (c1, n1, .inr (.inr (.inr (.inr g)))))) (ht0 : tys[t0]? = some (c0, .array t)) (ht1 : tys[t1]? = some (c1, .array t))
    {sp dp n : Int32} (h1 : ¬ sp < 0) (h2 : ¬ dp < 0) (h3 : ¬ n < 0) (h4 : sp.toNatClampNeg + n.toNatClampNeg ≤ n0) (h5 : dp.toNatClampNeg + n.toNatClampNeg ≤ n1) (hel : ∀ i : Nat, i < n.toNatClampNeg → ∀ y : Nat, f (sp.toNatClampNeg + i) = some y → ∃ (cE : ClassId) (w : vp_A), H[y]? = some (vp_cell cE w) ∧ s.vm.findClass (FieldType.array t).toString = some cE)
    (hframes : 1 ≤ R.frames) (hlocals : (rest.map fun v => v.category).sum + 18 ≤ R.locals) (hdg : decode cc pc = .ok (.invokestatic index, 3))
    (kk : ∀ (H1 : Heap) (locs1 : List Loc), va_P D cl (ws.set q1 (a, .inl (c1, n1, .inr (.inr (.inr (.inr (va_cpy f g sp.toNatClampNeg dp.toNatClampNeg n.toNatClampNeg))))))) H1 → va_D A (ws.set q1 (a, .inl (c1, n1, .inr (.inr (.inr (.inr (va_cpy f g sp.toNatClampNeg dp.toNatClampNeg n.toNatClampNeg))))))) → va_S A H0 H1 locs1 → W p l e R s m args below meth c H1 locs1 cells slots Q (F0 m (pc + 3) ls rest)) : W p l e R s m args below meth c H locs cells slots Q (F0 m pc ls (.int n :: .int dp :: .ref a :: .int sp :: .ref a0 :: rest)) := by
  intro T hT X
  have hc0 : H[a0]? = some (vp_cell c0 (n0, .inr (.inr (.inr (.inr f))))) := hP q0 _ ha0
  have hc1 : H[a]? = some (vp_cell c1 (n1, .inr (.inr (.inr (.inr g))))) := hP q1 _ ha1
  obtain ⟨-, k0, hk0, cm0, hkk0⟩ := (hK.2 t0 _ ht0).1 n0 (fun j => va_rf (f j))
  obtain ⟨-, k1, hk1, cm1, hkk1⟩ := (hK.2 t1 _ ht1).1 n1 (fun j => va_rf (g j))
  obtain ⟨vm', X', step⟩ := X.arraycopy hx hown hlink hnat hstat hini (src := a0) (dst := a) (cs := vp_cell c0 (n0, .inr (.inr (.inr (.inr f))))) (cd := vp_cell c1 (n1, .inr (.inr (.inr (.inr g))))) (srcPos := sp) (destPos := dp) (n := n) (by rw [hT]; exact hc0) (by rw [hT]; exact hc1)
    (fun _ hq => by cases hq) (fun _ hq => by cases hq) (fun hq => by cases hq) (fun hq => by cases hq) hk0 hk1 hkk0 hkk1 rfl h1 h2 h3
    (by rw [P_nn h1, P_nn h3]; show ¬ _ > ((arrV c0 n0 (fun j => va_rf (f j))).slots.size : Int); rw [arrV_size]; omega)
    (by rw [P_nn h2, P_nn h3]; show ¬ _ > ((arrV c1 n1 (fun j => va_rf (g j))).slots.size : Int); rw [arrV_size]; omega)
    (fun vm₁ hal i hi => by
      have e0 : (vp_cell c0 (n0, .inr (.inr (.inr (.inr f))))).slots.getD (sp.toNatClampNeg + i) .null = va_rf (f (sp.toNatClampNeg + i)) := by
        show (arrV c0 n0 (fun j => va_rf (f j))).slots.getD _ _ = _
        rw [Array.getD_eq_getD_getElem?, arrV_read _ _ (by omega)]
        rfl
      rw [e0]
      cases hy : f (sp.toNatClampNeg + i) with
      | none => exact ⟨rfl, trivial⟩
      | some y =>
        obtain ⟨cE, w, b1, b2⟩ := hel i hi y hy
        obtain ⟨kA, kE, d1, d2, d3⟩ := P_comp hK hover ht1 b2
        cases hk1.symm.trans d1
        cases hkk1.symm.trans d2
        obtain ⟨kE', hkE', -⟩ := hal.2.2 _ _ d3
        refine ⟨rfl, vp_cell _ w, (show T.heap[y]? = some _ by rw [hT]; exact b1), (fun q hq => by rw [P_cellv.2] at hq; cases hq), ⟨kE', by rw [P_cellv.1]; exact hkE'⟩, ⟨kE', hkE'⟩, ?_⟩
        rw [P_cellv.1]
        exact va_asg _ _)
    (g := F0 m pc ls (.int n :: .int dp :: .ref a :: .int sp :: .ref a0 :: rest)) rfl (by rw [hml]) (rest := rest) rfl (by rw [hb]; exact hdg) hframes (by show 2 * 0 + _ + (7 + 11) ≤ _; omega)
  have e1 : copied (vp_cell c0 (n0, .inr (.inr (.inr (.inr f))))) (vp_cell c1 (n1, .inr (.inr (.inr (.inr g))))) sp dp n = vp_cell c1 (n1, .inr (.inr (.inr (.inr (va_cpy f g sp.toNatClampNeg dp.toNatClampNeg n.toNatClampNeg))))) := by
    rw [vp_cell_q, vp_cell_q, vp_cell_q]
    exact va_copied (fun z => va_rf z) c0 c1 f g h4
  rw [e1] at X' step
  generalize va_cpy f g sp.toNatClampNeg dp.toNatClampNeg n.toNatClampNeg = fg at X' step kk
  have hl : a < H.size := (Array.getElem?_eq_some_iff.mp hc1).1
  have hheap : ((T.setVm vm').setCell a (vp_cell c1 (n1, .inr (.inr (.inr (.inr fg)))))).heap = H.setIfInBounds a (vp_cell c1 (n1, .inr (.inr (.inr (.inr fg))))) := by rw [← hT]; rfl
  have oq : ∀ q : Nat, q ≠ a → (H.setIfInBounds a (vp_cell c1 (n1, .inr (.inr (.inr (.inr fg))))))[q]? = H[q]? := fun q hq => by simp [Array.getElem?_setIfInBounds, Ne.symm hq]
  obtain ⟨t', a1, b1⟩ := kk _ _ (hP.set hD ha1 (show (H.setIfInBounds a _)[a]? = some _ by simp [Array.getElem?_setIfInBounds, hl]) oq) (hD.set ha1) ⟨by simp; exact hS.1, fun q b1 b2 => by
      rw [oq q (fun e9 => b2 (by rw [e9]; exact hD.2 q1 _ ha1))]
      exact hS.2.1 q b1 b2, fun q hq => by
      rcases List.mem_append.mp hq with h9 | h9
      · exact hS.2.2 q h9
      · obtain ⟨z, -, hz⟩ := List.mem_map.mp h9
        rw [← hz]
        exact hD.2 q1 _ ha1⟩ _ hheap X'
  exact ⟨t', step t' a1, b1⟩
theorem P_up_v {k ty : Nat} (h : P_up k = ty) (h2 : ty = 200 ∨ ty = 201) : k = 0 ∧ ty = 200 ∨ k = 200 ∧ ty = 201 := by
  unfold P_up at h
  split at h
  · omega
  · split at h <;> omega
/-- a row in a row of rows: its class's name -/
theorem P_rown (hat : P_atok cl aty) (hK : va_K D cl tys s) {k ty t1 : Nat} {cE : ClassId} (hk : P_up k = ty) (h2 : ty = 200 ∨ ty = 201) (hE : tys[t1]? = some (cE, aty k)) : ∃ t, aty ty = .array t ∧ (t = .int ∨ t = .array .int) ∧ s.vm.findClass (FieldType.array t).toString = some cE := by
  obtain ⟨a0, -, -, -, -, -, a5, a6⟩ := hat
  rcases P_up_v hk h2 with ⟨rfl, rfl⟩ | ⟨rfl, rfl⟩
  · rw [a0] at hE
    exact ⟨.int, a5, Or.inl rfl, (hK.2 t1 _ hE).2⟩
  · rw [a5] at hE
    exact ⟨.array .int, a6, Or.inr rfl, (hK.2 t1 _ hE).2⟩
set_option maxHeartbeats 4000000 in
/-- the rows' writes -/
theorem P_ast_ok (hC : P_Cx Tb own ini cc nL p s m args meth c) (hW : P_Wd cl aty nro stat D A s H locs ro ws tys h.1) (hat : P_atok cl aty) {i : Instr} (hi : i = .iastore ∨ i = .bastore ∨ i = .lastore ∨ i = .dastore ∨ i = .aastore) (hok : P_iok cl aty Z Tb stat own ini i r1 r2) (hdg : decode cc pc = .ok (i, 1)) (hst : P_vs (P_rho ro ws) st st') (hh : P_hp Z nro i r1 r2 st h = some (st1, h1))
    (k : ∀ (H1 : Heap) (locs1 : List Loc) (ws1 : va_W) (ws' : List Value), P_rho ro ws1 = P_rho ro ws → P_Wd cl aty nro stat D A s H1 locs1 ro ws1 tys h1.1 → h1.2 = h.2 → P_vs (P_rho ro ws) st1 ws' → W p l e R s m args below meth c H1 locs1 cells slots Q (F0 m (pc + 1) ls ws')) : W p l e R s m args below meth c H locs cells slots Q (F0 m pc ls st') := by
  obtain ⟨hx, hb, -, hown, hts, -, -⟩ := hC
  obtain ⟨a0, a1, a2, a3, a5, a4, -, -⟩ := id hat
  rcases hi with rfl | rfl | rfl | rfl | rfl
  · simp only [P_hp] at hh
    split at hh
    · next x j a r =>
      split at hh
      · next n f hc =>
        split at hh
        · next ha =>
          obtain ⟨kx, hk, hh⟩ := P_bind_some hh
          cases hh
          obtain ⟨hin, rfl⟩ := P_ix_ok hk
          obtain ⟨w0, ws0, rfl, h0, h0'⟩ := P_vs_cons hst
          obtain ⟨w, ws2, rfl, h2, h3⟩ := P_vs_cons h0'
          obtain ⟨w2, ws3, rfl, h4, h5⟩ := P_vs_cons h3
          cases h2; cases h0
          obtain ⟨q, e1, rfl, h6, cA, t0, g, g1, rfl, g3⟩ := hW.at ha h4 hc
          cases g3
          exact va_iast (D := D) (cl := cl) hx hb hW.2.1 hW.1 hW.2.2.1 hW.2.2.2.1 _ t0 h6 (by rw [g1, a0]) hin hdg (fun H1 locs1 hP hD hS => k H1 locs1 _ _ (P_rho_set h6) (hW.set ha h6 hP hD hS ⟨cA, t0, _, g1, rfl, rfl⟩) rfl h5)
        · cases hh
      · cases hh
    · cases hh
  · simp only [P_hp] at hh
    split at hh
    · next x j a r =>
      split at hh
      · next n f hc =>
        split at hh
        · next ha =>
          obtain ⟨kx, hk, hh⟩ := P_bind_some hh
          cases hh
          obtain ⟨hin, rfl⟩ := P_ix_ok hk
          obtain ⟨w0, ws0, rfl, h0, h0'⟩ := P_vs_cons hst
          obtain ⟨w, ws2, rfl, h2, h3⟩ := P_vs_cons h0'
          obtain ⟨w2, ws3, rfl, h4, h5⟩ := P_vs_cons h3
          cases h2; cases h0
          obtain ⟨q, e1, rfl, h6, cA, t0, g, g1, rfl, g3⟩ := hW.at ha h4 hc
          cases g3
          exact va_zast (D := D) (cl := cl) hx hb hW.2.1 hW.1 hW.2.2.1 hW.2.2.2.1 _ t0 h6 (by rw [g1, a3]) hin hdg (fun H1 locs1 hP hD hS => k H1 locs1 _ _ (P_rho_set h6) (hW.set ha h6 hP hD hS ⟨cA, t0, _, g1, rfl, rfl⟩) rfl h5)
        · cases hh
      · cases hh
    · cases hh
  · simp only [P_hp] at hh
    split at hh
    · next x j a r =>
      split at hh
      · next n f hc =>
        split at hh
        · next ha =>
          obtain ⟨kx, hk, hh⟩ := P_bind_some hh
          cases hh
          obtain ⟨hin, rfl⟩ := P_ix_ok hk
          obtain ⟨w0, ws0, rfl, h0, h0'⟩ := P_vs_cons hst
          obtain ⟨w, ws2, rfl, h2, h3⟩ := P_vs_cons h0'
          obtain ⟨w2, ws3, rfl, h4, h5⟩ := P_vs_cons h3
          cases h2; cases h0
          obtain ⟨q, e1, rfl, h6, cA, t0, g, g1, rfl, g3⟩ := hW.at ha h4 hc
          cases g3
          exact va_last (D := D) (cl := cl) hx hb hW.2.1 hW.1 hW.2.2.1 hW.2.2.2.1 _ t0 h6 (by rw [g1, a1]) hin hdg (fun H1 locs1 hP hD hS => k H1 locs1 _ _ (P_rho_set h6) (hW.set ha h6 hP hD hS ⟨cA, t0, _, g1, rfl, rfl⟩) rfl h5)
        · cases hh
      · cases hh
    · cases hh
  · simp only [P_hp] at hh
    split at hh
    · next x j a r =>
      split at hh
      · next n f hc =>
        split at hh
        · next ha =>
          obtain ⟨kx, hk, hh⟩ := P_bind_some hh
          cases hh
          obtain ⟨hin, rfl⟩ := P_ix_ok hk
          obtain ⟨w0, ws0, rfl, h0, h0'⟩ := P_vs_cons hst
          obtain ⟨w, ws2, rfl, h2, h3⟩ := P_vs_cons h0'
          obtain ⟨w2, ws3, rfl, h4, h5⟩ := P_vs_cons h3
          cases h2; cases h0
          obtain ⟨q, e1, rfl, h6, cA, t0, g, g1, rfl, g3⟩ := hW.at ha h4 hc
          cases g3
          exact va_dast (D := D) (cl := cl) hx hb hW.2.1 hW.1 hW.2.2.1 hW.2.2.2.1 _ t0 h6 (by rw [g1, a2]) hin hdg (fun H1 locs1 hP hD hS => k H1 locs1 _ _ (P_rho_set h6) (hW.set ha h6 hP hD hS ⟨cA, t0, _, g1, rfl, rfl⟩) rfl h5)
        · cases hh
      · cases hh
    · cases hh
  · simp only [P_hp] at hh
    split at hh
    · next x j a r =>
      split at hh
      · next ty n f hc =>
        split at hh
        · next ci fs hc2 =>
          split at hh
          · next hcond =>
            obtain ⟨kx, hk, hh⟩ := P_bind_some hh
            cases hh
            obtain ⟨hin, rfl⟩ := P_ix_ok hk
            obtain ⟨w0, ws0, rfl, h0, h0'⟩ := P_vs_cons hst
            obtain ⟨w, ws2, rfl, h2, h3⟩ := P_vs_cons h0'
            obtain ⟨w2, ws3, rfl, h4, h5⟩ := P_vs_cons h3
            cases h2
            obtain ⟨ha, hx0, rfl⟩ := hcond
            obtain ⟨q, e1, rfl, h6, cA, t0, g, g1, rfl, g', rfl, g4⟩ := hW.at ha h4 hc
            have hrho : P_v (P_rho ro ws) (.ref x) w0 := h0
            obtain ⟨q2, e2, rfl, h7, fs', rfl, h8⟩ := hW.at hx0 h0 hc2
            obtain ⟨rr, hrr, -⟩ := hW.1 _ _ h7
            refine va_astq (D := D) (cl := cl) hx hb hW.2.1 hW.1 hW.2.2.1 hW.2.2.2.1 _ t0 (x - nro) ci (r := rr) h6 (by rw [g1, a5 _ _ hrr]) h7 hrr hin hdg (fun H1 locs1 hP hD hS => k H1 locs1 _ _ (P_rho_set h6) (hW.set ha h6 hP hD hS ⟨cA, t0, _, g1, rfl, _, rfl, fun jj => ?_⟩) rfl h5)
            obtain ⟨q3, hq3, e3⟩ := hrho
            cases e3
            by_cases hjj : jj = j.toNatClampNeg
            · exact Or.inr ⟨x, q2, by simp [va_up, hjj], by simp [va_up, hjj], hq3⟩
            · simpa [va_up, hjj] using g4 jj
          · cases hh
        · next tx nx fx hc2 =>
          split at hh
          · next hcond =>
            obtain ⟨kx, hk, hh⟩ := P_bind_some hh
            cases hh
            obtain ⟨hin, rfl⟩ := P_ix_ok hk
            obtain ⟨w0, ws0, rfl, h0, h0'⟩ := P_vs_cons hst
            obtain ⟨w, ws2, rfl, h2, h3⟩ := P_vs_cons h0'
            obtain ⟨w2, ws3, rfl, h4, h5⟩ := P_vs_cons h3
            cases h2
            obtain ⟨ha, hx0, hup, hge, hr⟩ := hcond
            obtain ⟨q, e1, rfl, h6, cA, t0, g, g1, rfl, g', rfl, g4⟩ := hW.at ha h4 hc
            have hrho : P_v (P_rho ro ws) (.ref x) w0 := h0
            obtain ⟨q2, e2, rfl, h7, cE, tE, gE, g8, rfl, -⟩ := hW.at hx0 h0 hc2
            have hty2 : ty = 200 ∨ ty = 201 := by
              unfold P_up at hup
              split at hup
              · omega
              · split at hup <;> omega
            obtain ⟨t, b1, b2, b3⟩ := P_rown hat hW.2.1 hup hty2 g8
            obtain ⟨o5, o6⟩ := hok hr
            have hover : (Jvm.Cond.arrayOver (.array t)).before args s = true := by
              rcases b2 with rfl | rfl
              · exact hts _ o5
              · exact hts _ o6
            refine P_astA (D := D) (cl := cl) hx hb hW.2.1 hW.1 hW.2.2.1 hW.2.2.2.1 hover _ t0 (x - nro) h6 (by rw [g1, b1]) h7 b3 hin hdg (fun H1 locs1 hP hD hS => k H1 locs1 _ _ (P_rho_set h6) (hW.set ha h6 hP hD hS ⟨cA, t0, _, g1, rfl, _, rfl, fun jj => ?_⟩) rfl h5)
            obtain ⟨q3, hq3, e3⟩ := hrho
            cases e3
            by_cases hjj : jj = j.toNatClampNeg
            · exact Or.inr ⟨x, q2, by simp [va_up, hjj], by simp [va_up, hjj], hq3⟩
            · simpa [va_up, hjj] using g4 jj
          · cases hh
        · cases hh
      · cases hh
    · cases hh
theorem P_cpy_ar {ρ : List Nat} {f g f' g' : Nat → Option Nat} {sp dp n : Nat} (h1 : ∀ j, (f j = none ∧ f' j = none) ∨ ∃ i q, f j = some i ∧ f' j = some q ∧ ρ[i]? = some q) (h2 : ∀ j, (g j = none ∧ g' j = none) ∨ ∃ i q, g j = some i ∧ g' j = some q ∧ ρ[i]? = some q) (j : Nat) : (va_cpy f g sp dp n j = none ∧ va_cpy f' g' sp dp n j = none) ∨ ∃ i q, va_cpy f g sp dp n j = some i ∧ va_cpy f' g' sp dp n j = some q ∧ ρ[i]? = some q := by
  unfold va_cpy
  split
  · exact h1 _
  · exact h2 _
set_option maxHeartbeats 4000000 in
theorem P_copy_ok (hC : P_Cx Tb own ini cc nL p s m args meth c) (hW : P_Wd cl aty nro stat D A s H locs ro ws tys h.1) (hat : P_atok cl aty) (hL : P_L (P_rho ro ws) L ls nL) {idx : Nat} (hok : P_iok cl aty Z Tb stat own ini (.invokestatic idx) r1 r2) (hdg : decode cc pc = .ok (.invokestatic idx, 3)) (hst : P_vs (P_rho ro ws) st st') (hh : P_hp Z nro (.invokestatic idx) r1 r2 st h = some (st1, h1)) (hf : 1 ≤ R.frames) (hl : 100 ≤ R.locals)
    (k : ∀ (H1 : Heap) (locs1 : List Loc) (ws1 : va_W) (ws' : List Value), P_rho ro ws1 = P_rho ro ws → P_Wd cl aty nro stat D A s H1 locs1 ro ws1 tys h1.1 → h1.2 = h.2 → P_vs (P_rho ro ws) st1 ws' → W p l e R s m args below meth c H1 locs1 cells slots Q (F0 m (pc + 3) ls ws')) : W p l e R s m args below meth c H locs cells slots Q (F0 m pc ls st') := by
  obtain ⟨hx, hb, hml, hown, hts, -, -⟩ := hC
  have hsz : c.maxLocals = ls.size := by
    obtain ⟨-, l0, q1, -⟩ := hL
    rw [hml]; exact q1.1.symm
  obtain ⟨a0, a1, a2, a3, aq, a4, a5, a6⟩ := id hat
  simp only [P_hp] at hh
  split at hh
  · next hr =>
    obtain ⟨o1, o2, o3, o4, o5, o6⟩ := hok hr
    split at hh
    · next n dp a sp b r =>
      split at hh
      · next t0 n0 f0 hc0 =>
        split at hh
        · next t1 n1 f1 hc1 =>
          split at hh
          · next hcond =>
            obtain ⟨fg, hfg, hh⟩ := P_bind_some hh
            cases hh
            obtain ⟨ha, hb0, rfl, hcs, i1, i2, i3, i4, i5⟩ := hcond
            obtain ⟨w0, ws0, rfl, e0, hs0⟩ := P_vs_cons hst
            obtain ⟨w1, ws1, rfl, e1, hs1⟩ := P_vs_cons hs0
            obtain ⟨w2, ws2, rfl, e2, hs2⟩ := P_vs_cons hs1
            obtain ⟨w3, ws3, rfl, e3, hs3⟩ := P_vs_cons hs2
            obtain ⟨w4, ws4, rfl, e4, hs4⟩ := P_vs_cons hs3
            cases e0; cases e1; cases e3
            obtain ⟨qa, ea, rfl, h6, cA, tA, g, g1, rfl, g3⟩ := hW.at ha e2 hc1
            obtain ⟨qb, eb, rfl, h7, cB, tB, gb, g4, rfl, g5⟩ := hW.at hb0 e4 hc0
            have hcat := P_cs_ok hs4
            unfold P_cpy at hfg
            split at hfg
            · next f g0 =>
              split at hfg
              · next ht =>
                cases hfg
                cases g3; cases g5
                subst ht
                exact va_copyi (D := D) (cl := cl) hx hb hsz hown (hts _ o1) (hts _ o2) (hts _ o3) (hts _ o4) hW.2.1 hW.1 hW.2.2.1 hW.2.2.2.1 (b - nro) (a - nro) tB tA h7 h6 g4 g1 (by rw [a0]; rfl) i1 i2 i3 i4 i5 (fun i hi => by rw [a0]; rfl) hf (by show _ + (7 + 11) ≤ _; omega) hdg
                  (fun H1 locs1 hP hD hS => k H1 locs1 _ _ (P_rho_set h6) (hW.set ha h6 hP hD hS ⟨cA, tA, _, g1, rfl, rfl⟩) rfl hs4)
              · cases hfg
            · next f g0 =>
              split at hfg
              · next ht =>
                cases hfg
                obtain ⟨gA, rfl, g6⟩ := g3
                obtain ⟨gB, rfl, g7⟩ := g5
                obtain ⟨ht, hel⟩ := ht
                have hall := List.all_eq_true.mp hel
                have hty : ∃ t, aty t0 = .array t ∧ (t = .int ∨ t = .array .int) := by
                  rcases ht with rfl | rfl
                  · exact ⟨_, a5, Or.inl rfl⟩
                  · exact ⟨_, a6, Or.inr rfl⟩
                obtain ⟨t, hty, htt⟩ := hty
                have hover : (Jvm.Cond.arrayOver (.array t)).before args s = true := by
                  rcases htt with rfl | rfl
                  · exact hts _ o5
                  · exact hts _ o6
                refine P_copyA (D := D) (cl := cl) hx hb hsz hown (hts _ o1) (hts _ o2) (hts _ o3) (hts _ o4) hW.2.1 hW.1 hW.2.2.1 hW.2.2.2.1 hover (b - nro) (a - nro) tB tA h7 h6 (by rw [g4, hty]) (by rw [g1, hty]) i1 i2 i3 i4 i5 ?_ hf (by omega) hdg
                  (fun H1 locs1 hP hD hS => k H1 locs1 _ _ (P_rho_set h6) (hW.set ha h6 hP hD hS ⟨cA, tA, _, g1, rfl, _, rfl, P_cpy_ar g7 g6⟩) rfl hs4)
                intro i hi y hy
                have hi2 := hall i (List.mem_range.mpr hi)
                rcases g7 (sp.toNatClampNeg + i) with ⟨z1, z2⟩ | ⟨ii, q2, z1, z2, z3⟩
                · rw [z2] at hy; cases hy
                · rw [z2] at hy
                  cases hy
                  rw [z1] at hi2
                  simp only [Bool.and_eq_true, decide_eq_true_eq] at hi2
                  obtain ⟨x1, x2⟩ := hi2
                  split at x2
                  · next kk nn ff hcc =>
                    have x3 := of_decide_eq_true x2
                    obtain ⟨q3, e3, w3, h8, cE, tE, gE, g8, rfl, -⟩ := hW.at x1 (show P_v (P_rho ro ws) (.ref ii) (.ref y) from ⟨y, z3, rfl⟩) hcc
                    cases w3
                    obtain ⟨t', b1, b2, b3⟩ := P_rown hat hW.2.1 x3 ht g8
                    cases hty.symm.trans b1
                    exact ⟨cE, _, hW.1 _ _ h8, b3⟩
                  · cases x2
              · cases hfg
            · cases hfg
          · cases hh
        · cases hh
      · cases hh
    · cases hh
  · cases hh
end CP
