/-! THE TIE, 2: an instruction between locals and stack; jumps -/
/-- how long an instruction is -/
def P_len (i : Instr) : Nat := match i with
  | .aload _ | .iload _ | .lload _ | .dload _ | .astore _ | .istore _ | .lstore _ | .dstore _ | .bipush _ | .ldc _ | .newarray _ => 2
  | .iinc _ _ | .sipush _ | .ldc_w _ | .ldc2_w _ | .goto _ | .ifCond _ _ | .if_icmp _ _ | .ifnull _ | .ifnonnull _ | .getfield _ | .putfield _ | .getstatic _ | .anewarray _ | .new _ | .invokestatic _ | .invokespecial _ | .invokevirtual _ => 3
  | .multianewarray _ _ => 4
  | _ => 1
/-- the constants that an instruction loads -/
def P_ldok (own : String) (i : Instr) (r1 : Int) (r2 : Nat) (args : Array Value) (s : State) : Prop := match i with
  | .ldc k => (Jvm.Cond.constant own k (Int32.ofInt r1)).before args s = true
  | .ldc_w k => (Jvm.Cond.constant own k (Int32.ofInt r1)).before args s = true
  | .ldc2_w k => if r2 = 0 then (Jvm.Cond.constantLong own k (Int64.ofInt r1)).before args s = true else (Jvm.Cond.constantDouble own k (UInt64.ofNat r1.toNat)).before args s = true
  | _ => True
section OP
variable {p : Program} {l : Launch} {e : Env} {R : Room} {s : State} {m : MethodId} {args : Array Value} {below : List Frame} {meth : Method} {c : Code} {H : Heap} {locs : List Loc} {cells slots : Nat} {Q : State → Prop} {cc : ByteArray} {pc nL : Nat} {ls : Array Slot} {rest : List Value} {ρ : List Nat} {L L1 st st1 st' : List Value}
theorem P_vs_cons {v : Value} (h : P_vs ρ (v :: st) st') : ∃ w ws, st' = w :: ws ∧ P_v ρ v w ∧ P_vs ρ st ws := by
  cases st' with
  | nil => exact h.elim
  | cons w ws => exact ⟨w, ws, rfl, h.1, h.2⟩
theorem P_vs_nil (h : P_vs ρ [] st') : st' = [] := by
  cases st' with
  | nil => rfl
  | cons w ws => exact h.elim
set_option maxHeartbeats 4000000 in
/-- an instruction between locals and stack -/
theorem P_op_ok (hx : p.tables.exec = Jvm.exec) (hb : c.code = cc) {own : String} (hown : s.vm.findClass own = some m.cls) {i : Instr} {r1 : Int} {r2 : Nat} (hdg : decode cc pc = .ok (i, P_len i)) (hld : P_ldok own i r1 r2 args s) (hL : P_L ρ L ls nL) (hst : P_vs ρ st st') (h : P_op i r1 r2 L st = some (L1, st1))
    (k : ∀ (ls' : Array Slot) (ws : List Value), P_L ρ L1 ls' nL → P_vs ρ st1 ws → W p l e R s m args below meth c H locs cells slots Q (F0 m (pc + P_len i) ls' ws)) : W p l e R s m args below meth c H locs cells slots Q (F0 m pc ls st') := by
  cases i with
  | aconst_null =>
    cases h
    exact lv_null hx hb hdg (k ls _ hL ⟨rfl, hst⟩)
  | aload i =>
    simp only [P_op, P_lda] at h
    split at h
    · next a ha =>
      cases h
      obtain ⟨v', h1, q, h2, rfl⟩ := hL.at ha (by simp [P_un])
      exact lv_aload hx hb hdg h1 (k ls _ hL ⟨⟨q, h2, rfl⟩, hst⟩)
    · next ha =>
      cases h
      obtain ⟨v', h1, h2⟩ := hL.at ha (by simp [P_un])
      cases h2
      exact lv_aloadN hx hb hdg h1 (k ls _ hL ⟨rfl, hst⟩)
    · cases h
  | aload_n i =>
    simp only [P_op, P_lda] at h
    split at h
    · next a ha =>
      cases h
      obtain ⟨v', h1, q, h2, rfl⟩ := hL.at ha (by simp [P_un])
      exact lv_aload_n hx hb hdg rfl h1 (k ls _ hL ⟨⟨q, h2, rfl⟩, hst⟩)
    · next ha =>
      cases h
      obtain ⟨v', h1, h2⟩ := hL.at ha (by simp [P_un])
      cases h2
      exact lv_aload_nN hx hb hdg rfl h1 (k ls _ hL ⟨rfl, hst⟩)
    · cases h
  | iload i =>
    simp only [P_op, P_ldi] at h
    split at h
    · next a ha =>
      cases h
      obtain ⟨v', h1, h2⟩ := hL.at ha (by simp [P_un])
      cases h2
      exact lv_iload hx hb hdg h1 (k ls _ hL ⟨rfl, hst⟩)
    · cases h
  | iload_n i =>
    simp only [P_op, P_ldi] at h
    split at h
    · next a ha =>
      cases h
      obtain ⟨v', h1, h2⟩ := hL.at ha (by simp [P_un])
      cases h2
      exact lv_iload_n hx hb hdg rfl h1 (k ls _ hL ⟨rfl, hst⟩)
    · cases h
  | lload i =>
    simp only [P_op, P_ldl] at h
    split at h
    · next a ha =>
      cases h
      obtain ⟨v', h1, h2⟩ := hL.at ha (by simp [P_un])
      cases h2
      exact lv_lload hx hb hdg h1 (k ls _ hL ⟨rfl, hst⟩)
    · cases h
  | lload_n i =>
    simp only [P_op, P_ldl] at h
    split at h
    · next a ha =>
      cases h
      obtain ⟨v', h1, h2⟩ := hL.at ha (by simp [P_un])
      cases h2
      exact lv_lload_n hx hb hdg rfl h1 (k ls _ hL ⟨rfl, hst⟩)
    · cases h
  | dload i =>
    simp only [P_op, P_ldd] at h
    split at h
    · next a ha =>
      cases h
      obtain ⟨v', h1, h2⟩ := hL.at ha (by simp [P_un])
      cases h2
      exact lv_dload hx hb hdg h1 (k ls _ hL ⟨rfl, hst⟩)
    · cases h
  | dload_n i =>
    simp only [P_op, P_ldd] at h
    split at h
    · next a ha =>
      cases h
      obtain ⟨v', h1, h2⟩ := hL.at ha (by simp [P_un])
      cases h2
      exact lv_dload_n hx hb hdg rfl h1 (k ls _ hL ⟨rfl, hst⟩)
    · cases h
  | astore i =>
    simp only [P_op, P_sta] at h
    split at h
    · split at h
      · next x r hlt =>
        cases h
        obtain ⟨w, ws, rfl, ⟨q, h2, rfl⟩, h3⟩ := P_vs_cons hst
        obtain ⟨l0, g1, g2⟩ := hL.st1 (i := i) (v := .ref x) ⟨q, h2, rfl⟩
        exact lv_astore hx hb hdg g1 (by rw [← hL.1]; exact hlt) rfl (fun ls' h' => k ls' _ (g2 ls' h') h3)
      · cases h
    · split at h
      · next r hlt =>
        cases h
        obtain ⟨w, ws, rfl, h2, h3⟩ := P_vs_cons hst
        cases h2
        obtain ⟨l0, g1, g2⟩ := hL.st1 (i := i) (v := .null) rfl
        exact lv_astoreN hx hb hdg g1 (by rw [← hL.1]; exact hlt) rfl (fun ls' h' => k ls' _ (g2 ls' h') h3)
      · cases h
    · cases h
  | astore_n i =>
    simp only [P_op, P_sta] at h
    split at h
    · split at h
      · next x r hlt =>
        cases h
        obtain ⟨w, ws, rfl, ⟨q, h2, rfl⟩, h3⟩ := P_vs_cons hst
        obtain ⟨l0, g1, g2⟩ := hL.st1 (i := i.val) (v := .ref x) ⟨q, h2, rfl⟩
        exact lv_astore_n hx hb hdg rfl g1 (by rw [← hL.1]; exact hlt) rfl (fun ls' h' => k ls' _ (g2 ls' h') h3)
      · cases h
    · split at h
      · next r hlt =>
        cases h
        obtain ⟨w, ws, rfl, h2, h3⟩ := P_vs_cons hst
        cases h2
        obtain ⟨l0, g1, g2⟩ := hL.st1 (i := i.val) (v := .null) rfl
        exact lv_astore_nN hx hb hdg rfl g1 (by rw [← hL.1]; exact hlt) rfl (fun ls' h' => k ls' _ (g2 ls' h') h3)
      · cases h
    · cases h
  | istore i =>
    simp only [P_op, P_sti] at h
    split at h
    · split at h
      · next x r hlt =>
        cases h
        obtain ⟨w, ws, rfl, h2, h3⟩ := P_vs_cons hst
        cases h2
        obtain ⟨l0, g1, g2⟩ := hL.st1 (i := i) (v := .int x) rfl
        exact lv_istore hx hb hdg g1 (by rw [← hL.1]; exact hlt) rfl (fun ls' h' => k ls' _ (g2 ls' h') h3)
      · cases h
    · cases h
  | istore_n i =>
    simp only [P_op, P_sti] at h
    split at h
    · split at h
      · next x r hlt =>
        cases h
        obtain ⟨w, ws, rfl, h2, h3⟩ := P_vs_cons hst
        cases h2
        obtain ⟨l0, g1, g2⟩ := hL.st1 (i := i.val) (v := .int x) rfl
        exact lv_istore_n hx hb hdg rfl g1 (by rw [← hL.1]; exact hlt) rfl (fun ls' h' => k ls' _ (g2 ls' h') h3)
      · cases h
    · cases h
  | lstore i =>
    simp only [P_op, P_stl] at h
    split at h
    · split at h
      · next x r hlt =>
        cases h
        obtain ⟨w, ws, rfl, h2, h3⟩ := P_vs_cons hst
        cases h2
        obtain ⟨l0, g1, g2⟩ := hL.st2 (i := i) (v := .long x) rfl
        exact lv_lstore hx hb hdg g1 (by rw [← hL.1]; exact hlt) rfl (fun ls' h' => k ls' _ (g2 ls' h') h3)
      · cases h
    · cases h
  | lstore_n i =>
    simp only [P_op, P_stl] at h
    split at h
    · split at h
      · next x r hlt =>
        cases h
        obtain ⟨w, ws, rfl, h2, h3⟩ := P_vs_cons hst
        cases h2
        obtain ⟨l0, g1, g2⟩ := hL.st2 (i := i.val) (v := .long x) rfl
        exact lv_lstore_n hx hb hdg rfl g1 (by rw [← hL.1]; exact hlt) rfl (fun ls' h' => k ls' _ (g2 ls' h') h3)
      · cases h
    · cases h
  | dstore i =>
    simp only [P_op, P_std] at h
    split at h
    · split at h
      · next x r hlt =>
        cases h
        obtain ⟨w, ws, rfl, h2, h3⟩ := P_vs_cons hst
        cases h2
        obtain ⟨l0, g1, g2⟩ := hL.st2 (i := i) (v := .double x) rfl
        exact lv_dstore hx hb hdg g1 (by rw [← hL.1]; exact hlt) rfl (fun ls' h' => k ls' _ (g2 ls' h') h3)
      · cases h
    · cases h
  | dstore_n i =>
    simp only [P_op, P_std] at h
    split at h
    · split at h
      · next x r hlt =>
        cases h
        obtain ⟨w, ws, rfl, h2, h3⟩ := P_vs_cons hst
        cases h2
        obtain ⟨l0, g1, g2⟩ := hL.st2 (i := i.val) (v := .double x) rfl
        exact lv_dstore_n hx hb hdg rfl g1 (by rw [← hL.1]; exact hlt) rfl (fun ls' h' => k ls' _ (g2 ls' h') h3)
      · cases h
    · cases h
  | iinc i n =>
    simp only [P_op, P_iinc] at h
    split at h
    · next x ha =>
      cases h
      obtain ⟨l0, g1, g2⟩ := hL.st1 (i := i) (v := .int (x + Int32.ofInt n)) rfl
      have hlt : i < nL := by rw [← hL.1]; exact (List.getElem?_eq_some_iff.mp ha).1
      obtain ⟨h0, l1, h1, h2⟩ := hL
      obtain hq | ⟨v', a, b⟩ := h2 i _ ha
      · exact absurd hq (by simp [P_un])
      · cases b
        obtain ⟨j, hj⟩ := List.getElem?_of_mem a
        have hs : lv_has ls nL ((i, .int x) :: l0) := ⟨g1.1, g1.2.1, fun q hq => by
          rcases List.mem_cons.mp hq with rfl | hq
          · exact h1.2.2 _ a
          · exact g1.2.2 q hq⟩
        refine lv_iinc (k := 0) hx hb hdg hs rfl rfl hlt rfl (fun ls' h' => k ls' _ (g2 ls' ?_) hst)
        refine ⟨h'.1, h'.2.1, fun q hq => h'.2.2 q ?_⟩
        rcases List.mem_cons.mp hq with rfl | hq
        · exact List.mem_cons_self
        · refine List.mem_cons_of_mem _ ?_
          rw [List.mem_filter] at hq ⊢
          exact ⟨List.mem_cons_of_mem _ hq.1, hq.2⟩
    · cases h
  | iconst n =>
    cases h
    exact lv_iconst hx hb hdg rfl (k ls _ hL ⟨rfl, hst⟩)
  | bipush n =>
    cases h
    exact lv_bipush hx hb hdg rfl (k ls _ hL ⟨rfl, hst⟩)
  | sipush n =>
    cases h
    exact lv_sipush hx hb hdg rfl (k ls _ hL ⟨rfl, hst⟩)
  | lconst n =>
    cases h
    exact lv_lconst hx hb hdg rfl (k ls _ hL ⟨rfl, hst⟩)
  | dconst n =>
    simp only [P_op] at h
    split at h
    · next hn =>
      cases h
      have hn' : n = 0 := Fin.ext hn
      subst hn'
      exact lv_dconst0 hx hb hdg (k ls _ hL ⟨rfl, hst⟩)
    · cases h
  | ldc i =>
    cases h
    exact lv_ldc hx hb hown hld hdg (k ls _ hL ⟨rfl, hst⟩)
  | ldc_w i =>
    cases h
    exact lv_ldcw hx hb hown hld hdg (k ls _ hL ⟨rfl, hst⟩)
  | ldc2_w i =>
    simp only [P_op] at h
    simp only [P_ldok] at hld
    split at h
    · next hr =>
      cases h
      rw [if_pos hr] at hld
      exact lv_ldc2 hx hb hown hld hdg (k ls _ hL ⟨rfl, hst⟩)
    · next hr =>
      cases h
      rw [if_neg hr] at hld
      exact lv_ldc2d hx hb hown hld hdg (k ls _ hL ⟨rfl, hst⟩)
  | dup =>
    simp only [P_op, P_dup] at h
    split at h
    · split at h
      · next a r ha =>
        cases h
        obtain ⟨w, ws, rfl, h2, h3⟩ := P_vs_cons hst
        exact lv_dup hx hb hdg (h2.c1 ha) (k ls _ hL ⟨h2, h2, h3⟩)
      · cases h
    · cases h
  | pop =>
    simp only [P_op, P_pop] at h
    split at h
    · split at h
      · next a r ha =>
        cases h
        obtain ⟨w, ws, rfl, h2, h3⟩ := P_vs_cons hst
        exact lv_pop hx hb hdg (h2.c1 ha) (k ls _ hL h3)
      · cases h
    · cases h
  | dup_x1 =>
    simp only [P_op, P_dupx1] at h
    split at h
    · split at h
      · split at h
        · next a b r ha hb2 =>
          cases h
          obtain ⟨w, ws, rfl, h2, h3⟩ := P_vs_cons hst
          obtain ⟨w2, ws2, rfl, h4, h5⟩ := P_vs_cons h3
          exact lv_dup_x1 hx hb hdg (h2.c1 ha) (h4.c1 hb2) (k ls _ hL ⟨h2, h4, h2, h5⟩)
        · cases h
      · cases h
    · cases h
  | dup_x2 =>
    simp only [P_op, P_dupx2] at h
    split at h
    · split at h
      · split at h
        · split at h
          · next a b d r ha hb2 hd =>
            cases h
            obtain ⟨w, ws, rfl, h2, h3⟩ := P_vs_cons hst
            obtain ⟨w2, ws2, rfl, h4, h5⟩ := P_vs_cons h3
            obtain ⟨w3, ws3, rfl, h6, h7⟩ := P_vs_cons h5
            exact lv_dup_x2 hx hb hdg (h2.c1 ha) (h4.c1 hb2) (h6.c1 hd) (k ls _ hL ⟨h2, h4, h6, h2, h7⟩)
          · cases h
        · cases h
      · cases h
    · cases h
  | dup2 =>
    simp only [P_op, P_dup2] at h
    split at h
    · split at h
      · split at h
        · next a b r ha hb2 =>
          cases h
          obtain ⟨w, ws, rfl, h2, h3⟩ := P_vs_cons hst
          obtain ⟨w2, ws2, rfl, h4, h5⟩ := P_vs_cons h3
          exact lv_dup2_11 hx hb hdg (h2.c1 ha) (h4.c1 hb2) (k ls _ hL ⟨h2, h4, h2, h4, h5⟩)
        · cases h
      · cases h
    · cases h
  | iadd =>
    simp only [P_op, P_ii] at h
    split at h
    · cases h
      obtain ⟨w, ws, rfl, h2, h3⟩ := P_vs_cons hst
      obtain ⟨w2, ws2, rfl, h4, h5⟩ := P_vs_cons h3
      cases h2; cases h4
      exact lv_iadd hx hb hdg (k ls _ hL ⟨rfl, h5⟩)
    · cases h
  | isub =>
    simp only [P_op, P_ii] at h
    split at h
    · cases h
      obtain ⟨w, ws, rfl, h2, h3⟩ := P_vs_cons hst
      obtain ⟨w2, ws2, rfl, h4, h5⟩ := P_vs_cons h3
      cases h2; cases h4
      exact lv_isub hx hb hdg (k ls _ hL ⟨rfl, h5⟩)
    · cases h
  | imul =>
    simp only [P_op, P_ii] at h
    split at h
    · cases h
      obtain ⟨w, ws, rfl, h2, h3⟩ := P_vs_cons hst
      obtain ⟨w2, ws2, rfl, h4, h5⟩ := P_vs_cons h3
      cases h2; cases h4
      exact lv_imul hx hb hdg (k ls _ hL ⟨rfl, h5⟩)
    · cases h
  | iand =>
    simp only [P_op, P_ii] at h
    split at h
    · cases h
      obtain ⟨w, ws, rfl, h2, h3⟩ := P_vs_cons hst
      obtain ⟨w2, ws2, rfl, h4, h5⟩ := P_vs_cons h3
      cases h2; cases h4
      exact lv_iand hx hb hdg (k ls _ hL ⟨rfl, h5⟩)
    · cases h
  | ior =>
    simp only [P_op, P_ii] at h
    split at h
    · cases h
      obtain ⟨w, ws, rfl, h2, h3⟩ := P_vs_cons hst
      obtain ⟨w2, ws2, rfl, h4, h5⟩ := P_vs_cons h3
      cases h2; cases h4
      exact lv_ior hx hb hdg (k ls _ hL ⟨rfl, h5⟩)
    · cases h
  | ishr =>
    simp only [P_op, P_ii] at h
    split at h
    · cases h
      obtain ⟨w, ws, rfl, h2, h3⟩ := P_vs_cons hst
      obtain ⟨w2, ws2, rfl, h4, h5⟩ := P_vs_cons h3
      cases h2; cases h4
      exact lv_ishr hx hb hdg (k ls _ hL ⟨rfl, h5⟩)
    · cases h
  | idiv =>
    simp only [P_op, P_id] at h
    split at h
    · split at h
      · cases h
      · next hne =>
        cases h
        obtain ⟨w, ws, rfl, h2, h3⟩ := P_vs_cons hst
        obtain ⟨w2, ws2, rfl, h4, h5⟩ := P_vs_cons h3
        cases h2; cases h4
        exact lv_idiv hx hb hdg hne (k ls _ hL ⟨rfl, h5⟩)
    · cases h
  | irem =>
    simp only [P_op, P_id] at h
    split at h
    · split at h
      · cases h
      · next hne =>
        cases h
        obtain ⟨w, ws, rfl, h2, h3⟩ := P_vs_cons hst
        obtain ⟨w2, ws2, rfl, h4, h5⟩ := P_vs_cons h3
        cases h2; cases h4
        exact lv_irem hx hb hdg hne (k ls _ hL ⟨rfl, h5⟩)
    · cases h
  | ladd =>
    simp only [P_op, P_ll] at h
    split at h
    · cases h
      obtain ⟨w, ws, rfl, h2, h3⟩ := P_vs_cons hst
      obtain ⟨w2, ws2, rfl, h4, h5⟩ := P_vs_cons h3
      cases h2; cases h4
      exact lv_ladd hx hb hdg (k ls _ hL ⟨rfl, h5⟩)
    · cases h
  | lmul =>
    simp only [P_op, P_ll] at h
    split at h
    · cases h
      obtain ⟨w, ws, rfl, h2, h3⟩ := P_vs_cons hst
      obtain ⟨w2, ws2, rfl, h4, h5⟩ := P_vs_cons h3
      cases h2; cases h4
      exact lv_lmul hx hb hdg (k ls _ hL ⟨rfl, h5⟩)
    · cases h
  | ldiv =>
    simp only [P_op, P_ld] at h
    split at h
    · split at h
      · cases h
      · next hne =>
        cases h
        obtain ⟨w, ws, rfl, h2, h3⟩ := P_vs_cons hst
        obtain ⟨w2, ws2, rfl, h4, h5⟩ := P_vs_cons h3
        cases h2; cases h4
        exact lv_ldiv hx hb hdg hne (k ls _ hL ⟨rfl, h5⟩)
    · cases h
  | lcmp =>
    simp only [P_op, P_lcmp] at h
    split at h
    · cases h
      obtain ⟨w, ws, rfl, h2, h3⟩ := P_vs_cons hst
      obtain ⟨w2, ws2, rfl, h4, h5⟩ := P_vs_cons h3
      cases h2; cases h4
      exact W.lcmp hx hb hdg (k ls _ hL ⟨rfl, h5⟩)
    · cases h
  | dcmp op =>
    simp only [P_op, P_dcmp] at h
    split at h
    · cases h
      obtain ⟨w, ws, rfl, h2, h3⟩ := P_vs_cons hst
      obtain ⟨w2, ws2, rfl, h4, h5⟩ := P_vs_cons h3
      cases h2; cases h4
      exact lv_dcmp hx hb hdg (k ls _ hL ⟨rfl, h5⟩)
    · cases h
  | ddiv =>
    simp only [P_op, P_dd] at h
    split at h
    · split at h
      · next hne =>
        cases h
        obtain ⟨w, ws, rfl, h2, h3⟩ := P_vs_cons hst
        obtain ⟨w2, ws2, rfl, h4, h5⟩ := P_vs_cons h3
        cases h2; cases h4
        exact lv_ddiv hx hb hdg hne (k ls _ hL ⟨rfl, h5⟩)
      · cases h
    · cases h
  | dmul =>
    simp only [P_op, P_dd] at h
    split at h
    · split at h
      · next hne =>
        cases h
        obtain ⟨w, ws, rfl, h2, h3⟩ := P_vs_cons hst
        obtain ⟨w2, ws2, rfl, h4, h5⟩ := P_vs_cons h3
        cases h2; cases h4
        exact lv_dmul hx hb hdg hne (k ls _ hL ⟨rfl, h5⟩)
      · cases h
    · cases h
  | dadd =>
    simp only [P_op, P_dd] at h
    split at h
    · split at h
      · next hne =>
        cases h
        obtain ⟨w, ws, rfl, h2, h3⟩ := P_vs_cons hst
        obtain ⟨w2, ws2, rfl, h4, h5⟩ := P_vs_cons h3
        cases h2; cases h4
        exact lv_dadd hx hb hdg hne (k ls _ hL ⟨rfl, h5⟩)
      · cases h
    · cases h
  | ineg =>
    simp only [P_op, P_u] at h
    split at h
    · next a r =>
      cases a <;> simp only [P_ineg] at h <;> first | (cases h; done) | skip
      cases h
      obtain ⟨w, ws, rfl, h2, h3⟩ := P_vs_cons hst
      cases h2
      exact lv_ineg hx hb hdg (k ls _ hL ⟨rfl, h3⟩)
    · cases h
  | i2l =>
    simp only [P_op, P_u] at h
    split at h
    · next a r =>
      cases a <;> simp only [P_i2l] at h <;> first | (cases h; done) | skip
      cases h
      obtain ⟨w, ws, rfl, h2, h3⟩ := P_vs_cons hst
      cases h2
      exact lv_i2l hx hb hdg rfl (k ls _ hL ⟨rfl, h3⟩)
    · cases h
  | i2d =>
    simp only [P_op, P_u] at h
    split at h
    · next a r =>
      cases a <;> simp only [P_i2d] at h <;> first | (cases h; done) | skip
      cases h
      obtain ⟨w, ws, rfl, h2, h3⟩ := P_vs_cons hst
      cases h2
      exact lv_i2d hx hb hdg (k ls _ hL ⟨rfl, h3⟩)
    · cases h
  | d2i =>
    simp only [P_op, P_u] at h
    split at h
    · next a r =>
      cases a <;> simp only [P_d2i] at h <;> first | (cases h; done) | skip
      cases h
      obtain ⟨w, ws, rfl, h2, h3⟩ := P_vs_cons hst
      cases h2
      exact lv_d2i hx hb hdg (k ls _ hL ⟨rfl, h3⟩)
    · cases h
  | _ => cases h
end OP
