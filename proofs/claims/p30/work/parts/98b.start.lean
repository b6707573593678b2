/-! THE LAW'S START: the machine's state there, and the pure machine's -/
theorem P_len32 {n : Nat} (_ : n < 2 ^ 31) : n.toInt32 = Int32.ofNat n := rfl
theorem P_sterm {args : Array Value} {s : State} {t : Term} {n : String} (h : (Jvm.Cond.exactly t n).before args s = true) : ∃ a, t.eval args s none [] s = some (.ref a) := by
  obtain ⟨a, -, -, -, ha, -⟩ := Jvm.Cond.exactly_spec h
  exact ⟨a, ha⟩
set_option maxHeartbeats 4000000 in
set_option maxRecDepth 20000 in
theorem P_law {p : Program} {e : Env} {s : State} {m : MethodId} {below : List Frame} {meth : Method} {c : Code} (hok : P_ok P_cl P_aty P_stat P_nc P_tx P_N0 P_Tg P_T2 P_Y0) (l : Launch) (hflags : l.flags = flags0) {b L : Nat} {xs : Nat → Int32} (hL : L < 2 ^ 31) (C0 : lw_At p s m meth c b L xs) {n d : Nat} {h1 : P_H} (hx : P_ex P_Y0 n d 0 (0, P_fit 18 [.ref 0], [], (P_h0 L xs, 0, 0)) = some (.inl (some (.int 1)), h1)) (hd : d ≤ 200) (hc1 : h1.2.1 ≤ 600104) (hs1 : h1.2.2 ≤ 7301313) : W p l e room_1 s m #[Value.ref b] below meth c s.heap [] 0 0 (lw_Z below #[Value.ref b] s) (entryFrame m ([Value.ref b] : List Value).toArray 18) := by
  obtain ⟨hxe, hb, hr, hml, hown, hts, hX, hbl, hlocks, hgv⟩ := id C0
  have hnar := flat_of_before _ hgv
  have htb := P_htb hts
  have hA : ∀ a : Nat, a < s.heap.size → ¬ (fun q : Nat => s.heap.size ≤ q) a := fun a h => Nat.not_le.mpr h
  -- the row of orders
  obtain ⟨t, ht, hT⟩ := va_Tof (N := 18) (f := fun j => .int (P_ord j)) (ty := .int) (tm := .static "OrchardQuery" "ORDERS" "[I") (A := fun q : Nat => s.heap.size ≤ q) (by decide) (hnar _ (by decide +kernel)) (va_eqt (z := 18) (hnar _ (by decide +kernel))) (fun j hj => by
    match j, hj with
    | 0, _ => exact va_eqt (z := 0) (hnar _ (by decide +kernel))
    | 1, _ => exact va_eqt (z := 1) (hnar _ (by decide +kernel))
    | 2, _ => exact va_eqt (z := 2) (hnar _ (by decide +kernel))
    | 3, _ => exact va_eqt (z := 0) (hnar _ (by decide +kernel))
    | 4, _ => exact va_eqt (z := 2) (hnar _ (by decide +kernel))
    | 5, _ => exact va_eqt (z := 1) (hnar _ (by decide +kernel))
    | 6, _ => exact va_eqt (z := 1) (hnar _ (by decide +kernel))
    | 7, _ => exact va_eqt (z := 0) (hnar _ (by decide +kernel))
    | 8, _ => exact va_eqt (z := 2) (hnar _ (by decide +kernel))
    | 9, _ => exact va_eqt (z := 1) (hnar _ (by decide +kernel))
    | 10, _ => exact va_eqt (z := 2) (hnar _ (by decide +kernel))
    | 11, _ => exact va_eqt (z := 0) (hnar _ (by decide +kernel))
    | 12, _ => exact va_eqt (z := 2) (hnar _ (by decide +kernel))
    | 13, _ => exact va_eqt (z := 0) (hnar _ (by decide +kernel))
    | 14, _ => exact va_eqt (z := 1) (hnar _ (by decide +kernel))
    | 15, _ => exact va_eqt (z := 2) (hnar _ (by decide +kernel))
    | 16, _ => exact va_eqt (z := 1) (hnar _ (by decide +kernel))
    | 17, _ => exact va_eqt (z := 0) (hnar _ (by decide +kernel))
    | j + 18, hj => exact absurd hj (by omega)) hA
  have hZ : va_Z "OrchardQuery" "ORDERS" "[I" (.ref t) (fun q : Nat => s.heap.size ≤ q) s s.heap := va_Zof (hts (.laysStatic "OrchardQuery" "ORDERS" "[I") (by decide +kernel)) (hts (.initialized "OrchardQuery") (by decide +kernel)) ht hA
  have hXT : va_T .int b L (fun j => .int (xs j)) (fun q : Nat => s.heap.size ≤ q) s s.heap := by
    obtain ⟨cell, d1, d2, d3, d4, d5⟩ := hX
    exact ⟨cell, d1, d2, d3, by omega, by rw [d4], d5, Nat.not_le.mpr hbl⟩
  -- the kinds
  have hkn : ∀ (k : Nat) (q : vw_C), P_cl[k]? = some q → ∃ (cC : ClassId) (iS : Nat → Nat), u_Kn s q.1 q.2.1 q.2.2 cC iS := by
    intro k q hq
    obtain ⟨C, T, N⟩ := q
    obtain ⟨u1, -⟩ := hok.1 k C T N hq
    have hins : ∃ n, (Jvm.Cond.instantiable C n).before #[Value.ref b] s = true := by
      have hk : k < P_cl.length := (List.getElem?_eq_some_iff.mp hq).1
      have hall : ∀ x ∈ P_cl, Jvm.Cond.instantiable x.1 x.2.2 ∈ lw_tbl := by decide +kernel
      exact ⟨N, hts _ (hall (C, T, N) (List.mem_of_getElem? hq))⟩
    obtain ⟨n, hn⟩ := hins
    exact u_known (C := C) (T := T) (N := N) htb u1 hn
  obtain ⟨dC, dI, hKc⟩ : ∃ (dC : Nat → ClassId) (dI : Nat → Nat → Nat), ∀ (k : Nat) (q : vw_C), P_cl[k]? = some q → u_Kn s q.1 q.2.1 q.2.2 (dC k) (dI k) := by
    have hk2 : ∀ k : Nat, ∃ (cC : ClassId) (iS : Nat → Nat), ∀ q : vw_C, P_cl[k]? = some q → u_Kn s q.1 q.2.1 q.2.2 cC iS := by
      intro k
      cases hq : P_cl[k]? with
      | none => exact ⟨0, fun _ => 0, fun q h => by cases h⟩
      | some q =>
        obtain ⟨cC, iS, h⟩ := hkn k q hq
        exact ⟨cC, iS, fun q' h' => by cases h'; exact h⟩
    exact ⟨fun k => (hk2 k).choose, fun k => (hk2 k).choose_spec.choose, fun k q hq => (hk2 k).choose_spec.choose_spec q hq⟩
  have hEx : P_Ex P_nc P_tx P_T2 (fun q : Nat => s.heap.size ≤ q) s s.heap := by
    refine ⟨fun w hw => (P_T2ok w hw).1 _ _ _ _ rfl (htb w (List.mem_append_right _ hw)), Or.inr ⟨vx_Zqof (hts (.laysStatic Bundle.tN "UNASSIGNED_STACK" Bundle.steD) (by decide +kernel)) (hts (.initialized Bundle.tN) (by decide +kernel)) (hnar _ (by decide +kernel)) hA, vx_Zqof (hts (.laysStatic Bundle.tN "SUPPRESSED_SENTINEL" Bundle.listD) (by decide +kernel)) (hts (.initialized Bundle.tN) (by decide +kernel)) (hnar _ (by decide +kernel)) hA⟩, fun x hx => va_Nc.of (hnar _ ((show ∀ x ∈ P_nc, Jvm.Cond.not (.castable x.1 x.2) ∈ flatC (Jvm.Cond.and given_1 narrow_1) by decide +kernel) x hx)), fun x hx => ?_⟩
    obtain ⟨sa, hsa⟩ := P_sterm (hnar _ ((show ∀ x ∈ P_tx, Jvm.Cond.exactly (.string x.1 x.2.1) "java/lang/String" ∈ flatC (Jvm.Cond.and given_1 narrow_1) by decide +kernel) x hx))
    exact ⟨sa, vk_R.of (hts _ ((show ∀ x ∈ P_tx, Jvm.Cond.stringRef x.1 x.2.1 x.2.2 ∈ lw_tbl by decide +kernel) x hx)) hsa⟩
  have hlt : l.stackTraces = false := by
    simp only [Launch.stackTraces, hflags]
    decide
  have hW : P_Wd P_cl P_aty 2 P_stat (dC, dI) (fun q : Nat => s.heap.size ≤ q) s s.heap [] [b, t] [] [] (P_h0 L xs) := by
    refine ⟨fun k q h => by simp at h, ⟨hKc, fun k q h => by simp at h⟩, ⟨fun i j p q h => by simp at h, fun k q h => by simp at h⟩, va_S.rf, fun q h => h, rfl, rfl, fun i q hq => ?_, fun i c q e h1 h2 => by simp at h2, fun x hx => ?_⟩
    · match i, hq with
      | 0, hq => cases hq; exact ⟨L, xs, rfl, hXT⟩
      | 1, hq => cases hq; exact ⟨18, P_ord, rfl, hT⟩
      | i + 2, hq => simp at hq
    · simp only [P_stat, List.mem_singleton] at hx
      subst hx
      exact ⟨t, rfl, hZ⟩
  have hvs : P_vs (P_rho [b, t] []) [.ref 0] [Value.ref b] := ⟨⟨b, rfl, rfl⟩, trivial⟩
  have hG : ∃ cd, P_Y0.2.2.1 0 = some (18, some .boolean, cd, []) := ⟨_, rfl⟩
  obtain ⟨cd, hG⟩ := hG
  have hLoc := P_entry (n := 18) hvs (by decide)
  rw [lg_entry_eq]
  refine P_walk hok (Or.inr hlt) n d 0 0 _ [] (P_h0 L xs, 0, 0) _ h1 hx 18 (some .boolean) cd [] hG p e room_1 s m #[Value.ref b] below meth c (lw_Z below #[Value.ref b] s) (dC, dI) (fun q : Nat => s.heap.size ≤ q) [b, t] [b, t] 0 0 ⟨hxe, hb, hml, hown, htb, hlocks, fun q => by cases q⟩ (Or.inl rfl) hEx ?_ ?_ ?_ ?_ ?_ ?_ ?_ s.heap [] 0 0 [] [] _ [] P_sub_rf hW rfl rfl hLoc trivial
  · show d + 8 ≤ 2048
    omega
  · show 60 * d + 200 ≤ 84000
    omega
  · exact hc1
  · exact hs1
  · intro v i pc' H' locs' cells' slots' ws' tys' ls' stp st'' hr' hdg hret hvs' hsub hW' hc hs
    cases hr'
    have hst : i = .ireturn ∧ stp = [.int 1] := by
      unfold P_ret at hret
      split at hret
      · split at hret <;> cases hret
      · split at hret
        · split at hret
          · cases hret; exact ⟨rfl, rfl⟩
          · cases hret
        · cases hret
      · next heq => cases heq
      · next heq => cases heq
      · split at hret
        · split at hret <;> cases hret
        · split at hret <;> cases hret
        · cases hret
      · cases hret
    obtain ⟨rfl, rfl⟩ := hst
    obtain ⟨w, ws2, rfl, g1, g2⟩ := P_vs_cons hvs'
    cases g1
    cases P_vs_nil g2
    refine va_forget (fun q hq => hW'.2.2.2.1.2.2 q hq) ?_
    refine W.widen (k := 600104) (n := 7301313) (by omega) (by omega) ?_
    exact lw_ret (d0 := s.drawn) (Drawn.sameBut.refl s.drawn lw_cs) hxe hb hr hlocks hdg
  · intro idx r2 pc' H' locs' cells' slots' ws' tys' ls' hr'
    cases hr'
  · intro E q ce pc' H' locs' cells' slots' ws' tys' ls' rest' hr'
    cases hr'
