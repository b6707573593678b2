/-! THE TIE, 12: the walk by induction on the fuel -/
theorem P_L.stun {ρ : List Nat} {L : List Value} {ls : Array Slot} {n i : Nat} {v' : Value} (hL : P_L ρ L ls n) : ∃ l : List (Nat × Value), lv_has ls n l ∧ ∀ ls' : Array Slot, lv_has ls' n ((i, v') :: l.filter (fun q => !(q.1 == i) && !(q.1 + 1 == i && q.2.category == 2))) → P_L ρ (P_st1 L i P_un) ls' n := by
  obtain ⟨h0, l, h1, h2⟩ := hL
  refine ⟨l, h1, fun ls' h' => ⟨by simp [P_st1, P_pre_len, h0], _, h', fun k x hk => ?_⟩⟩
  unfold P_st1 at hk
  rw [List.getElem?_set] at hk
  by_cases e : i = k
  · subst e
    simp only [if_true] at hk
    split at hk
    · exact Or.inl (Option.some.inj hk).symm
    · cases hk
  · rw [if_neg e] at hk
    obtain hq | ⟨h3, h4⟩ := P_pre_at hk
    · exact Or.inl hq
    · obtain hq | ⟨w, a, b⟩ := h2 k x h3
      · exact Or.inl hq
      · refine Or.inr ⟨w, List.mem_cons_of_mem _ (List.mem_filter.mpr ⟨a, ?_⟩), b⟩
        have e' : ¬ k = i := fun q => e q.symm
        have hc := b.cat
        by_cases h5 : k + 1 = i
        · have h6 : ¬ w.category = 2 := fun q => h4 ⟨h5, by rw [← hc]; exact q⟩
          simp [e', h6]
        · simp [e', h5]
theorem P_sub_tr {a b c : List Nat} (h1 : P_sub a b) (h2 : P_sub b c) : P_sub a c := fun i q h => h2 i q (h1 i q h)
section WK
variable (cl : List vw_C) (aty : Nat → FieldType) (stat : P_T) (nc : List (String × String)) (tx : List (String × Nat × String)) (N : P_N) (Tg T2 : List Jvm.Cond) (Y : P_Y) (l : Launch)
/-- how a frame ends: by its own return, by its own throw, by what a call throws -/
def P_kret (p : Program) (e : Env) (R : Room) (s : State) (m : MethodId) (args : Array Value) (below : List Frame) (meth : Method) (c : Code) (Q : State → Prop) (D : va_G) (A : Nat → Prop) (ro ρ0 : List Nat) (k0 k1 y : Nat) (rt : Option FieldType) (r : P_R) (h1 : P_H) : Prop :=
  ∀ (v : Option Value) (i : Instr) (pc' : Nat) (H' : Heap) (locs' : List Loc) (cells' slots' : Nat) (ws' : va_W) (tys' : List (ClassId × FieldType)) (ls' : Array Slot) (stp st'' : List Value), r = .inl v → decode (N.2.1 y) pc' = .ok (i, 1) → P_ret rt i stp = some v → P_vs (P_rho ro ws') stp st'' → P_sub ρ0 (P_rho ro ws') → P_Wd cl aty Y.2.1 stat D A s H' locs' ro ws' tys' h1.1 → cells' + k0 = h1.2.1 → slots' + k1 = h1.2.2 → W p l e R s m args below meth c H' locs' cells' slots' Q (F0 m pc' ls' st'')
def P_kthr (p : Program) (e : Env) (R : Room) (s : State) (m : MethodId) (args : Array Value) (below : List Frame) (meth : Method) (c : Code) (Q : State → Prop) (D : va_G) (A : Nat → Prop) (ro ρ0 : List Nat) (k0 k1 y mx : Nat) (r : P_R) (h1 : P_H) : Prop :=
  ∀ (idx r2 pc' : Nat) (H' : Heap) (locs' : List Loc) (cells' slots' : Nat) (ws' : va_W) (tys' : List (ClassId × FieldType)) (ls' : Array Slot), r = .inr (r2 - 1000) → 1000 ≤ r2 → r2 < 1003 → decode (N.2.1 y) pc' = .ok (.new idx, 3) → P_tok (Tg ++ T2) tx N (N.1 y).cls (N.2.1 y) (N.2.2.1 y) pc' (.new idx) r2 → ls'.size = mx → P_sub ρ0 (P_rho ro ws') → P_Wd cl aty Y.2.1 stat D A s H' locs' ro ws' tys' h1.1 → cells' + 1 + k0 = h1.2.1 → slots' + 6 + k1 = h1.2.2 → W p l e R s m args below meth c H' locs' cells' slots' Q (F0 m pc' ls' [])
def P_kprop (p : Program) (e : Env) (R : Room) (s : State) (m : MethodId) (args : Array Value) (below : List Frame) (meth : Method) (c : Code) (Q : State → Prop) (D : va_G) (A : Nat → Prop) (ro ρ0 : List Nat) (k0 k1 y : Nat) (r : P_R) (h1 : P_H) : Prop :=
  ∀ (E q : Nat) (ce : Cell) (pc' : Nat) (H' : Heap) (locs' : List Loc) (cells' slots' : Nat) (ws' : va_W) (tys' : List (ClassId × FieldType)) (ls' : Array Slot) (rest' : List Value), r = .inr E → E < 3 → (c.exceptionTable.toList = tableOf (N.2.2.1 y) → ∀ z ∈ c.exceptionTable.toList, covers z pc' = false ∨ (z.catchType ≠ 0 ∧ ∃ nm : String, (Jvm.Cond.classLink (N.1 y).cls z.catchType nm).before args s = true ∧ va_Nc (N.2.2.2.2 E) nm s)) → H'[q]? = some ce → ce.vm = .none → s.vm.findClass (N.2.2.2.2 E) = some ce.cls → P_sub ρ0 (P_rho ro ws') → P_Wd cl aty Y.2.1 stat D A s H' locs' ro ws' tys' h1.1 → cells' + k0 = h1.2.1 → slots' + k1 = h1.2.2 → vx_W p l e R s m args below meth c H' locs' cells' slots' Q (F0 m pc' ls' rest') q
/-- all walks of a fuel -/
def P_Walk (n : Nat) : Prop :=
  ∀ (d y pc : Nat) (L st : List Value) (h : P_H) (r : P_R) (h1 : P_H), P_ex Y n d y (pc, L, st, h) = some (r, h1) → ∀ (mx : Nat) (rt : Option FieldType) (cd : Nat → Option P_I) (hs : List (Nat × Nat × Nat × Nat × Nat)), Y.2.2.1 y = some (mx, rt, cd, hs) →
    ∀ (p : Program) (e : Env) (R : Room) (s : State) (m : MethodId) (args : Array Value) (below : List Frame) (meth : Method) (c : Code) (Q : State → Prop) (D : va_G) (A : Nat → Prop) (ro ρ0 : List Nat) (k0 k1 : Nat),
    P_Cx (Tg ++ T2) (N.1 y).cls (N.2.2.2.1 y) (N.2.1 y) mx p s m args meth c → (hs = [] ∨ c.exceptionTable.toList = tableOf (N.2.2.1 y)) → P_Ex nc tx T2 A s s.heap → d + 8 ≤ R.frames → 60 * d + 200 ≤ R.locals → h1.2.1 ≤ R.cells + k0 → h1.2.2 ≤ R.slots + k1 →
    P_kret cl aty stat N Y l p e R s m args below meth c Q D A ro ρ0 k0 k1 y rt r h1 → P_kthr cl aty stat tx N Tg T2 Y l p e R s m args below meth c Q D A ro ρ0 k0 k1 y mx r h1 → P_kprop cl aty stat N Y l p e R s m args below meth c Q D A ro ρ0 k0 k1 y r h1 →
    ∀ (H : Heap) (locs : List Loc) (cells slots : Nat) (ws : va_W) (tys : List (ClassId × FieldType)) (ls : Array Slot) (st' : List Value), P_sub ρ0 (P_rho ro ws) → P_Wd cl aty Y.2.1 stat D A s H locs ro ws tys h.1 → cells + k0 = h.2.1 → slots + k1 = h.2.2 → P_L (P_rho ro ws) L ls mx → P_vs (P_rho ro ws) st st' →
    W p l e R s m args below meth c H locs cells slots Q (F0 m pc ls st')
end WK
section WK2
variable {cl : List vw_C} {aty : Nat → FieldType} {stat : P_T} {nc : List (String × String)} {tx : List (String × Nat × String)} {N : P_N} {Tg T2 : List Jvm.Cond} {Y : P_Y} {l : Launch}
set_option maxHeartbeats 1000000 in
theorem P_ct_of (hok : P_ok cl aty stat nc tx N Tg T2 Y) (hl : tx = [] ∨ l.stackTraces = false) {n d y : Nat} {as : List Value} {h : P_H} {x : P_R} {h1 : P_H} (hW : P_Walk cl aty stat nc tx N Tg T2 Y l n) (he : P_cal Y n d y as h = some (x, h1)) : ∃ (mx : Nat) (rt : Option FieldType), P_mok N Tg y mx rt ∧ (∀ (i : Nat) (t : FieldType), i = y → rt = some t → (N.1 i).name ≠ "<init>") ∧ P_Ct cl aty Y.2.1 stat nc tx T2 N Tg l y d mx rt as h x h1 := by
  unfold P_cal at he
  split at he
  · cases he
  next hy0 =>
  split at he
  · cases he
  next mx rest hy =>
  rcases Nat.lt_or_ge mx (P_args as).length with hlt0 | hlen
  · rw [if_neg (Nat.not_le.mpr hlt0)] at he
    cases he
  rw [if_pos hlen] at he
  obtain ⟨rt, cd, hs⟩ := rest
  obtain ⟨o1, o2, o3, o5, o4⟩ := hok
  obtain ⟨m1, m2, m3, m4⟩ := o4 y mx rt cd hs hy
  have m1 := m1 hy0
  refine ⟨mx, rt, m1, fun i t hi ht => by subst hi; exact m2 t ht, ?_⟩
  intro D ro ws tys sz as' has
  obtain ⟨c1, c2, c3, c4⟩ := m1
  have hmono := P_ex_mono _ _ _ _ _ _ he
  have body : ∀ (p : Program) (e : Env) (s : State) (m : MethodId) (args : Array Value) (below : List Frame) (meth : Method) (c : Code) (s₁ : State), BodyLoose p l (N.1 y) (headSpec (P_cw N y mx rt :: Tg) (P_rm d (h1.2.1 - h.2.1) (h1.2.2 - h.2.2))) (N.2.1 y) mx rt e s m args below meth c s₁ → c.maxLocals = mx → c.exceptionTable.toList = tableOf (N.2.2.1 y) → P_Pc cl aty Y.2.1 stat nc tx T2 D as' ro ws tys h.1 sz args s →
      W p l e (headSpec (P_cw N y mx rt :: Tg) (P_rm d (h1.2.1 - h.2.1) (h1.2.2 - h.2.2))).room s m args below meth c s.heap [] 0 0 (vx_MQ below (P_Qc cl aty Y.2.1 D ro ws sz x h1.1) (P_XC cl aty Y.2.1 N D ro ws sz x h1.1) args s (h1.2.1 - h.2.1) (h1.2.2 - h.2.2) (va_A ws sz)) (entryFrame m args mx) := by
    intro p e s m args below meth c s₁ B hml htab hPc
    obtain ⟨rfl, hsz, hWd, hEx⟩ := hPc
    have hts := atoms_spec (ws := P_cw N y mx rt :: Tg) B.pre
    have hts' : ∀ w ∈ Tg ++ T2, w.before as'.toArray s = true := fun w hw => (List.mem_append.mp hw).elim (fun q => hts w (List.mem_cons_of_mem _ q)) (fun q => (o5 w q).1 _ _ _ _ rfl (hEx.1 w q))
    have hown : s.vm.findClass (N.1 y).cls = some m.cls := findClass_of_methodNamed B.named
    have hname : meth.name = (N.1 y).name := (name_of_methodNamed B.named B.method).1
    have hCx : P_Cx (Tg ++ T2) (N.1 y).cls (N.2.2.2.1 y) (N.2.1 y) mx p s m as'.toArray meth c := ⟨B.exec, B.bytes, hml, hown, hts', B.notSynchronized, fun hi => by rw [hname]; exact m3 hi⟩
    rw [lg_entry_eq]
    have hLoc := P_entry (ρ := P_rho ro ws) has hlen
    have hFr : ∀ {H' : Heap} {locs' : List Loc} {t : State}, va_S (va_A ws sz) s.heap H' locs' → t.heap = H' → va_F (va_A ws sz) s t := fun h1 h2 => h1.F h2
    have hWc : ∀ {H' : Heap} {locs' : List Loc} {ws' : va_W} {tys' : List (ClassId × FieldType)} {hh : List P_E} {t : State}, P_Wd cl aty Y.2.1 stat D (va_A ws sz) s H' locs' ro ws' tys' hh → t.heap = H' → s.vm.Alike t.vm → P_Wc cl aty Y.2.1 D (va_A ws sz) t t.heap ro ws' tys' hh := by
      intro H' locs' ws' tys' hh t g ht hal
      obtain ⟨g1, g2, g3, g4, g5, g6, g7, g8, g9, g10⟩ := g
      rw [ht]
      refine ⟨g1, g2.moved hal, g3, g7, fun i q hq => ?_, g9⟩
      obtain ⟨nn, f, b1, b2⟩ := g8 i q hq
      refine ⟨nn, f, b1, ?_⟩
      have b3 := b2.out
      obtain ⟨cell, d1, d2, d3, d4, d5, d6, -⟩ := b2.moved hal
      have b4 : q < s.heap.size := (Array.getElem?_eq_some_iff.mp d1).1
      exact ⟨cell, by rw [g4.2.1 q b4 b3]; exact d1, d2, d3, d4, d5, d6, fun z => z⟩
    refine hW d y 0 _ [] h x h1 he mx rt cd hs hy p e _ s m as'.toArray below meth c _ D (va_A ws sz) ro (P_rho ro ws) h.2.1 h.2.2 hCx (Or.inr htab) hEx ?_ ?_ ?_ ?_ ?_ ?_ ?_ s.heap [] 0 0 ws tys _ [] P_sub_rf hWd (Nat.zero_add _) (Nat.zero_add _) hLoc trivial
    · show d + 8 ≤ d + 8
      omega
    · show 60 * d + 200 ≤ 60 * d + 200
      omega
    · show h1.2.1 ≤ h1.2.1 - h.2.1 + h.2.1
      omega
    · show h1.2.2 ≤ h1.2.2 - h.2.2 + h.2.2
      omega
    · intro v i pc' H' locs' cells' slots' ws' tys' ls' stp st'' hr hdg hret hvs hsub hW' hc hs'
      refine vx_ret (W.widen (k := h1.2.1 - h.2.1) (n := h1.2.2 - h.2.2) (by omega) (by omega) ?_)
      exact P_ret_ok B.exec B.bytes B.returns B.notSynchronized hdg hvs hret (fun v' t hv ht hw => ⟨⟨v, v', ws', tys', hr, rfl, hv, hsub, hWc hW' ht hw.alike⟩, hFr hW'.2.2.2.1 ht⟩) hW'.2.2.2.1.2.2
    · intro idx r2 pc' H' locs' cells' slots' ws' tys' ls' hr hlo hhi hdg htok hls hsub hW' hc hs'
      obtain ⟨text, is, ic, BB, t0, t1, t2, t3, t4, t5, t6, t7, t8, t9, t10⟩ := htok hlo
      have htx : ¬ tx = [] := fun q => by rw [q] at t6; cases t6
      have hlt : l.stackTraces = false := hl.resolve_left htx
      obtain ⟨hU, hN⟩ := hEx.2.1.resolve_left htx
      obtain ⟨sa, hsa⟩ := hEx.2.2.2 _ t6
      have htab0 : ∀ k : Nat, ∀ z ∈ c.exceptionTable.toList, covers z k = false := by
        rw [htab, t1]
        intro k z hz
        cases hz
      have r1 : BB.length + 3 < d + 8 := by omega
      have r2' : (([] : List Value).map fun v => v.category).sum + (13 * (BB.length + 1) + 43) ≤ 60 * d + 200 := by simp [t0]
      have r3 : cells' + 1 ≤ h1.2.1 - h.2.1 := by omega
      have r4 : slots' + 6 ≤ h1.2.2 - h.2.2 := by omega
      have hX : ∀ t : State, s.vm.Alike t.vm → H'.size ≤ t.heap.size → (∀ q : Nat, q < H'.size → t.heap[q]? = H'[q]?) → P_XC cl aty Y.2.1 N D ro ws sz x h1.1 (N.2.2.2.2 (r2 - 1000)) s t := by
        intro t hal hle hkeep
        have hS2 : va_S (va_A ws sz) s.heap t.heap locs' := ⟨Nat.le_trans hW'.2.2.2.1.1 hle, fun q b1 b2 => (hkeep q (Nat.lt_of_lt_of_le b1 hW'.2.2.2.1.1)).trans (hW'.2.2.2.1.2.1 q b1 b2), hW'.2.2.2.1.2.2⟩
        obtain ⟨g1, g2, g3, g4, g5, g6, g7, g8, g9, g10⟩ := hW'
        have hW2 : P_Wd cl aty Y.2.1 stat D (va_A ws sz) s t.heap locs' ro ws' tys' h1.1 := ⟨g1.kept (fun k q hk => hkeep q.1 ((g1 k q hk).lt)), g2, g3, hS2, g5, g6, g7, g8, g9, g10⟩
        exact ⟨⟨r2 - 1000, ws', tys', hr, by omega, rfl, hsub, hWc hW2 rfl hal⟩, hFr hS2 rfl⟩
      rcases t10 with ⟨t10, t11, t12⟩ | ⟨t10, t11, t12⟩
      · exact vx_throwS (A := va_A ws sz) B.exec B.bytes hlt hown t2 t3 (hts' _ t4) (hts' _ t5) hsa (fun w hw => hts' w (t7 w hw)) t8 hU hN hW'.2.2.2.1 (by rw [hls, hml]) hdg t9 t10 t11 t12 (htab0 _) r1 r2' r3 r4 B.notSynchronized hX hW'.2.2.2.1.2.2 (by omega) (by omega)
      · exact vx_throwSW (A := va_A ws sz) B.exec B.bytes hlt hown t2 t3 (hts' _ t4) (hts' _ t5) hsa (fun w hw => hts' w (t7 w hw)) t8 hU hN hW'.2.2.2.1 (by rw [hls, hml]) hdg t9 t10 t11 t12 (htab0 _) r1 r2' r3 r4 B.notSynchronized hX hW'.2.2.2.1.2.2 (by omega) (by omega)
    · intro E q ce pc' H' locs' cells' slots' ws' tys' ls' rest' hr hE hpass hce hcv hcl hsub hW' hc hs'
      exact vx_outP hown B.notSynchronized (hpass htab) hce hcv hcl (fun t ht hal => ⟨⟨E, ws', tys', hr, hE, rfl, hsub, hWc hW' ht hal⟩, hFr hW'.2.2.2.1 ht⟩) hW'.2.2.2.1.2.2 (by omega) (by omega)
  by_cases hmh : N.2.2.1 y = []
  · have hcw : P_cw N y mx rt = .code (N.1 y) (N.2.1 y) mx rt := if_pos hmh
    rw [hcw] at body ⊢
    refine vx_ofW (cc := N.2.1 y) (maxL := mx) (ret := rt) c1 rfl (fun p e s m args below meth c s₁ B hml htab hPc => body p e s m args below meth c s₁ B hml ?_ hPc)
    rw [hmh]
    cases hq : c.exceptionTable.toList with
    | nil => rfl
    | cons z zs => exact (htab z (by rw [hq]; exact List.mem_cons_self)).elim
  · have hcw : P_cw N y mx rt = .codeWith (N.1 y) (N.2.1 y) mx rt (N.2.2.1 y) := if_neg hmh
    rw [hcw] at body ⊢
    refine vx_ofWH (cc := N.2.1 y) (maxL := mx) (ret := rt) (hh := N.2.2.1 y) c1 rfl (fun p e s m args below meth c s₁ B hml hPc => body p e s m args below meth c s₁ B hml ?_ hPc)
    exact vx_table (x := N.1 y) (y := N.1 y) B (atoms_spec B.pre _ List.mem_cons_self)
end WK2
