/-! THE TIE, 8: entries, the JDK's own, ends -/
theorem P_cs_ok {ρ : List Nat} : ∀ {vs ws : List Value}, P_vs ρ vs ws → (ws.map fun v => v.category).sum = P_cs vs
  | [], [], _ => rfl
  | v :: vs, w :: ws, h => by
    rw [List.map_cons, List.sum_cons, P_cs_ok h.2, h.1.cat]
    cases v <;> simp only [P_cs, Value.category] <;> omega
  | [], _ :: _, h => h.elim
  | _ :: _, [], h => h.elim
theorem P_vs.take {ρ : List Nat} : ∀ {n : Nat} {vs ws : List Value}, P_vs ρ vs ws → P_vs ρ (vs.take n) (ws.take n)
  | 0, _, _, _ => trivial
  | _ + 1, [], [], _ => trivial
  | n + 1, _ :: _, _ :: _, h => ⟨h.1, P_vs.take (n := n) h.2⟩
  | _ + 1, [], _ :: _, h => h.elim
  | _ + 1, _ :: _, [], h => h.elim
theorem P_vs.dropn {ρ : List Nat} : ∀ {n : Nat} {vs ws : List Value}, P_vs ρ vs ws → P_vs ρ (vs.drop n) (ws.drop n)
  | 0, _, _, h => h
  | _ + 1, [], [], _ => trivial
  | n + 1, _ :: _, _ :: _, h => P_vs.dropn (n := n) h.2
  | _ + 1, [], _ :: _, h => h.elim
  | _ + 1, _ :: _, [], h => h.elim
theorem P_vs.app {ρ : List Nat} : ∀ {v1 w1 v2 w2 : List Value}, P_vs ρ v1 w1 → P_vs ρ v2 w2 → P_vs ρ (v1 ++ v2) (w1 ++ w2)
  | [], [], _, _, _, h => h
  | _ :: _, _ :: _, _, _, h, h2 => ⟨h.1, P_vs.app h.2 h2⟩
  | [], _ :: _, _, _, h, _ => h.elim
  | _ :: _, [], _, _, h, _ => h.elim
theorem P_vs.rev {ρ : List Nat} : ∀ {v1 w1 : List Value}, P_vs ρ v1 w1 → P_vs ρ v1.reverse w1.reverse
  | [], [], _ => trivial
  | v :: vs, w :: ws, h => by
    rw [List.reverse_cons, List.reverse_cons]
    exact (P_vs.rev h.2).app ⟨h.1, trivial⟩
  | [], _ :: _, h => h.elim
  | _ :: _, [], h => h.elim
/-- how the arguments lie in the locals -/
theorem P_args_at {ρ : List Nat} : ∀ {as as' : List Value} (_ : P_vs ρ as as') (b k : Nat) (v : Value), (P_args as)[k]? = some v → v = P_un ∨ ∃ v', (b + k, v') ∈ lv_args b as' ∧ P_v ρ v v'
  | [], [], _, b, k, v, h => by simp [P_args] at h
  | a :: as, w :: ws, hv, b, k, v, h => by
    by_cases h2 : a.category = 2
    · have e : P_args (a :: as) = a :: P_un :: P_args as := by cases a <;> simp [Value.category] at h2 <;> rfl
      have e2 : lv_args b (w :: ws) = (b, w) :: lv_args (b + 2) ws := by
        have hc := hv.1.cat
        rw [h2] at hc
        simp [lv_args, hc]
      rw [e] at h
      rw [e2]
      match k with
      | 0 => cases h; exact Or.inr ⟨w, List.mem_cons_self, hv.1⟩
      | 1 => cases h; exact Or.inl rfl
      | k + 2 =>
        rcases P_args_at hv.2 (b + 2) k v (by simpa using h) with q | ⟨v', h3, h4⟩
        · exact Or.inl q
        · exact Or.inr ⟨v', List.mem_cons_of_mem _ (by rwa [show b + (k + 2) = b + 2 + k by omega]), h4⟩
    · have h1 : a.category = 1 := by rcases lv_cat a with q | q; exact q; exact absurd q h2
      have e : P_args (a :: as) = a :: P_args as := by cases a <;> simp [Value.category] at h2 <;> rfl
      have e2 : lv_args b (w :: ws) = (b, w) :: lv_args (b + 1) ws := by
        have hc := hv.1.cat
        rw [h1] at hc
        simp [lv_args, hc]
      rw [e] at h
      rw [e2]
      match k with
      | 0 => cases h; exact Or.inr ⟨w, List.mem_cons_self, hv.1⟩
      | k + 1 =>
        rcases P_args_at hv.2 (b + 1) k v (by simpa using h) with q | ⟨v', h3, h4⟩
        · exact Or.inl q
        · exact Or.inr ⟨v', List.mem_cons_of_mem _ (by rwa [show b + (k + 1) = b + 1 + k by omega]), h4⟩
  | [], _ :: _, hv, _, _, _, _ => hv.elim
  | _ :: _, [], hv, _, _, _, _ => hv.elim
theorem P_fit_len : ∀ (n : Nat) (L : List Value), (P_fit n L).length = n
  | 0, _ => rfl
  | n + 1, [] => congrArg (· + 1) (P_fit_len n [])
  | n + 1, _ :: vs => congrArg (· + 1) (P_fit_len n vs)
theorem P_fit_at : ∀ (n : Nat) (L : List Value) (k : Nat) (v : Value), (P_fit n L)[k]? = some v → v = P_un ∨ L[k]? = some v
  | 0, _, k, v, h => by simp [P_fit] at h
  | n + 1, [], 0, v, h => by cases h; exact Or.inl rfl
  | n + 1, [], k + 1, v, h => P_fit_at n [] k v (by simpa [P_fit] using h)
  | n + 1, x :: vs, 0, v, h => by cases h; exact Or.inr rfl
  | n + 1, x :: vs, k + 1, v, h => by simpa using P_fit_at n vs k v (by simpa [P_fit] using h)
theorem P_args_len {ρ : List Nat} : ∀ {as as' : List Value}, P_vs ρ as as' → (lg_sl as').length = (P_args as).length
  | [], [], _ => rfl
  | a :: as, w :: ws, hv => by
    have ih := P_args_len hv.2
    have hc := hv.1.cat
    by_cases h2 : a.category = 2
    · have e : P_args (a :: as) = a :: P_un :: P_args as := by cases a <;> simp [Value.category] at h2 <;> rfl
      rw [h2] at hc
      rw [e]
      simp only [lg_sl, List.flatMap_cons, hc, if_true, List.length_append, List.length_cons, List.length_nil]
      have : (List.flatMap (fun v : Value => if v.category = 2 then [Slot.val v, Slot.second] else [Slot.val v]) ws).length = (P_args as).length := ih
      omega
    · have e : P_args (a :: as) = a :: P_args as := by cases a <;> simp [Value.category] at h2 <;> rfl
      have h2' : ¬ w.category = 2 := by rw [hc]; exact h2
      rw [e]
      simp only [lg_sl, List.flatMap_cons, if_neg h2', List.length_append, List.length_cons, List.length_nil]
      have : (List.flatMap (fun v : Value => if v.category = 2 then [Slot.val v, Slot.second] else [Slot.val v]) ws).length = (P_args as).length := ih
      omega
  | [], _ :: _, hv => hv.elim
  | _ :: _, [], hv => hv.elim
theorem P_entry {ρ : List Nat} {as as' : List Value} {n : Nat} (hv : P_vs ρ as as') (hn : (P_args as).length ≤ n) : P_L ρ (P_fit n (P_args as)) ((lg_sl as' ++ List.replicate (n - (lg_sl as').length) Slot.unset).toArray) n := by
  refine ⟨P_fit_len _ _, lv_args 0 as', lv_entry as' (by rw [P_args_len hv]; exact hn), fun k v hk => ?_⟩
  rcases P_fit_at _ _ _ _ hk with q | q
  · exact Or.inl q
  · rcases P_args_at hv 0 k v q with q2 | ⟨v', h1, h2⟩
    · exact Or.inl q2
    · exact Or.inr ⟨v', by rwa [Nat.zero_add] at h1, h2⟩
section EN
variable {p : Program} {l : Launch} {e : Env} {R : Room} {s : State} {m : MethodId} {args : Array Value} {below : List Frame} {meth : Method} {c : Code} {H : Heap} {locs : List Loc} {cells slots : Nat} {Q : State → Prop} {cc : ByteArray} {pc nL : Nat} {ls : Array Slot} {rest : List Value} {L L1 st st1 st' : List Value} {ρ : List Nat}
variable {Tb : List Jvm.Cond} {own : String} {ini : Bool} {r1 : Int} {r2 : Nat}
/-- what the tables say of the calls of 9000, 9001, 9002 -/
def P_jok (Tb : List Jvm.Cond) (own : String) (i : Instr) (r2 : Nat) : Prop := match i with
  | .invokespecial idx => r2 = 9000 → Jvm.Cond.methodLink own idx Lib.objectInit ∈ Tb ∧ Jvm.Cond.instanceMethod Lib.objectInit ∈ Tb ∧ Jvm.Cond.code Lib.objectInit ⟨#[0xb1]⟩ 1 none ∈ Tb
  | .invokestatic idx => (r2 = 9001 → Jvm.Cond.methodLink own idx Lib.Math.max.name ∈ Tb ∧ Jvm.Cond.static Lib.Math.max.name ∈ Tb ∧ Jvm.Cond.initialized "java/lang/Math" ∈ Tb ∧ Jvm.Cond.code Lib.Math.max.name Lib.Math.max.code 2 (some .int) ∈ Tb) ∧ (r2 = 9002 → Jvm.Cond.methodLink own idx Lib.Math.min.name ∈ Tb ∧ Jvm.Cond.static Lib.Math.min.name ∈ Tb ∧ Jvm.Cond.initialized "java/lang/Math" ∈ Tb ∧ Jvm.Cond.code Lib.Math.min.name Lib.Math.min.code 2 (some .int) ∈ Tb)
  | _ => True
set_option maxHeartbeats 400000 in
theorem P_jdk_ok (hC : P_Cx Tb own ini cc nL p s m args meth c) (hL : P_L ρ L ls nL) {i : Instr} (hok : P_jok Tb own i r2) (hdg : decode cc pc = .ok (i, 3)) (hst : P_vs ρ st st') (hh : P_jdk i r2 st = some st1) (hf : 1 ≤ R.frames) (hl : 100 ≤ R.locals) (hrc : cells ≤ R.cells) (hrs : slots ≤ R.slots)
    (k : ∀ ws' : List Value, P_vs ρ st1 ws' → W p l e R s m args below meth c H locs cells slots Q (F0 m (pc + 3) ls ws')) : W p l e R s m args below meth c H locs cells slots Q (F0 m pc ls st') := by
  obtain ⟨hx, hb, hml, hown, hts, -, -⟩ := hC
  have hsz : ls.size = c.maxLocals := by
    obtain ⟨-, l0, h1, -⟩ := hL
    rw [hml]; exact h1.1
  unfold P_jdk at hh
  split at hh
  · next idx =>
    split at hh
    · next hr =>
      split at hh
      · next a r =>
        split at hh
        · next hcs =>
          cases hh
          obtain ⟨w, ws, rfl, ⟨q, h2, rfl⟩, h3⟩ := P_vs_cons hst
          obtain ⟨g1, g2, g3⟩ := hok hr
          have hcat := P_cs_ok h3
          exact W.objInit (g := F0 m pc ls (.ref q :: ws)) (a := q) (rest := ws) (idx := idx) hx hb hown (hts _ g1) (hts _ g2) (hts _ g3) rfl hsz rfl hdg hf (by show 2 * 0 + (ws.map fun v => v.category).sum + 12 ≤ R.locals; omega) (k _ h3)
        · cases hh
      · cases hh
    · cases hh
  · next idx =>
    split at hh
    · next y x r =>
      split at hh
      · next hcs =>
        obtain ⟨w, ws, rfl, h2, h3⟩ := P_vs_cons hst
        obtain ⟨w2, ws2, rfl, h4, h5⟩ := P_vs_cons h3
        cases h2; cases h4
        have hcat := P_cs_ok h5
        split at hh
        · next hr =>
          cases hh
          obtain ⟨g1, g2, g3, g4⟩ := hok.1 hr
          exact va_mmax hx hb hsz.symm hown (hts _ g1) (hts _ g2) (hts _ g3) (hts _ g4) hf (by omega) hrc hrs hdg (k _ ⟨rfl, h5⟩)
        · split at hh
          · next hr =>
            cases hh
            obtain ⟨g1, g2, g3, g4⟩ := hok.2 hr
            exact va_mmin hx hb hsz.symm hown (hts _ g1) (hts _ g2) (hts _ g3) (hts _ g4) hf (by omega) hrc hrs hdg (k _ ⟨rfl, h5⟩)
          · cases hh
      · cases hh
    · cases hh
  · cases hh
/-- a pure result and the machine's -/
def P_vo (ρ : List Nat) (v v' : Option Value) : Prop := match v, v' with
  | none, none => True
  | some a, some b => P_v ρ a b
  | _, _ => False
set_option maxHeartbeats 4000000 in
theorem P_ret_ok {Qc : Array Value → State → Outcome → State → Prop} {free : Addr → Prop} (hx : p.tables.exec = Jvm.exec) (hb : c.code = cc) {rt : Option FieldType} (hr : meth.sig.returnType = rt) (hlocks : meth.locks = false) {i : Instr} {v : Option Value} (hdg : decode cc pc = .ok (i, 1)) (hst : P_vs ρ st st') (hh : P_ret rt i st = some v)
    (hq : ∀ (v' : Option Value) (t : State), P_vo ρ v v' → t.heap = H → s.WarmedH t.vm → Qc args s (.returned v') t) (hf : ∀ q ∈ locs, free q.base) : W p l e R s m args below meth c H locs cells slots (MQ below Qc args s cells slots free) (F0 m pc ls st') := by
  unfold P_ret at hh
  split at hh
  · split at hh
    · cases hh
      rw [P_vs_nil hst]
      exact W.vret hx hb hr (fun t h1 h2 => hq none t trivial h1 h2) hf hdg
    · cases hh
  · next t =>
    split at hh
    · next x =>
      split at hh
      · next hfit =>
        cases hh
        obtain ⟨w, ws, rfl, h2, h3⟩ := P_vs_cons hst
        cases P_vs_nil h3
        cases h2
        exact W.zret hx hb hr (P_fits_ok (ρ := ρ) hfit rfl).1 (fun t h1 h2 => hq (some (.int x)) t rfl h1 h2) hf hdg
      · cases hh
    · cases hh
  · split at hh
    · next x =>
      cases hh
      obtain ⟨w, ws, rfl, h2, h3⟩ := P_vs_cons hst
      cases P_vs_nil h3
      cases h2
      exact W.lret hx hb hr (fun t h1 h2 => hq (some (.long x)) t rfl h1 h2) hf hdg
    · cases hh
  · split at hh
    · next x =>
      cases hh
      obtain ⟨w, ws, rfl, h2, h3⟩ := P_vs_cons hst
      cases P_vs_nil h3
      cases h2
      exact W.dret hx hb hr (fun t h1 h2 => hq (some (.double x)) t rfl h1 h2) hf hdg
    · cases hh
  · next t =>
    have hrt : ∀ v : Value, P_fits t v = true → (v = .null ∨ ∃ a, v = .ref a) → (∃ n, t = .object n) ∨ ∃ t', t = .array t' := by
      intro v h1 h2
      cases t <;> first | (exact Or.inl ⟨_, rfl⟩) | (exact Or.inr ⟨_, rfl⟩) | (rcases h2 with rfl | ⟨a, rfl⟩ <;> simp [P_fits, fits] at h1)
    split at hh
    · next x =>
      split at hh
      · next hfit =>
        cases hh
        obtain ⟨w, ws, rfl, h2, h3⟩ := P_vs_cons hst
        cases P_vs_nil h3
        have h4 : P_v ρ (.ref x) w := h2
        obtain ⟨q, hq2, rfl⟩ := h2
        exact W.aret hx hb hr (hrt _ hfit (Or.inr ⟨_, rfl⟩)) (Or.inr ⟨_, rfl⟩) (fun t h1 h2 => hq (some (.ref q)) t h4 h1 h2) hf hdg
      · cases hh
    · split at hh
      · next hfit =>
        cases hh
        obtain ⟨w, ws, rfl, h2, h3⟩ := P_vs_cons hst
        cases P_vs_nil h3
        cases h2
        exact W.aret hx hb hr (hrt _ hfit (Or.inl rfl)) (Or.inl rfl) (fun t h1 h2 => hq (some .null) t rfl h1 h2) hf hdg
      · cases hh
    · cases hh
  · cases hh
end EN
