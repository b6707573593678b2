/-! THE LAW'S CELLS beside the class's: by their own addresses; they are made as the run goes -/
/-- what a cell is: an object (its kind; which fields are references), so many ints, so many references -/
abbrev P_Sg : Type := (Nat × List Bool) ⊕ Nat ⊕ (Nat × Nat)
/-- cells by address: a mark of one's own choice, what it is -/
abbrev P_Gl : Type := Nat → Option (Nat × P_Sg)
abbrev P_GQ : Type := P_R → P_Lw → P_A → P_Gl → P_A → Nat → Nat → Prop
def P_rfv (x : Int) : Value := if x < 0 then .null else .ref x.toNat
def P_rfo (x : Int) : Option Nat := if x < 0 then none else some x.toNat
def P_gfl (s : Nat → Int) : List Bool → Nat → List Value
  | [], _ => []
  | false :: r, f => P_z (s f) :: P_gfl s r (f + 1)
  | true :: r, f => P_rfv (s f) :: P_gfl s r (f + 1)
def P_gcl (sh : P_Sg) (s : Nat → Int) : P_E := match sh with
  | .inl (ci, bs) => .inr (ci, P_gfl s bs 0)
  | .inr (.inl n) => .inl (0, n, .inl (fun j => Int32.ofInt (s j)))
  | .inr (.inr (ty, n)) => .inl (ty, n, .inr (.inr (.inr (.inr (fun j => P_rfo (s j))))))
/-- both worlds in one heap; N: how many cells there are; u: above how many cells and slots were made -/
def P_Gk (w : P_Lw) (σ : P_A) (g : P_Gl) (τ : P_A) (N u : Nat) (h : P_H) : Prop :=
  P_Wk w σ h ∧ (∀ a r sh, g a = some (r, sh) → 2 ≤ a ∧ h.1[a]? = some (P_gcl sh (τ a)) ∧ ∀ k, w.2.1 k = true → w.2.2 k ≠ a) ∧ h.1.length = N ∧ (h.2.1 ≤ u ∧ h.2.2 ≤ u) ∧ (∃ (L : Nat) (xs : Nat → Int32), L ≤ 260 ∧ h.1[0]? = some (.inl (0, L, .inl xs)))
def P_gw (d y pc : Nat) (L st : List Value) (w : P_Lw) (σ : P_A) (g : P_Gl) (τ : P_A) (N u : Nat) (Q : P_GQ) : Prop :=
  ∀ h, P_Gk w σ g τ N u h → P_wp P_Y0 d y (pc, L, st, h) (fun r h' => ∃ w' σ' g' τ' N' u', P_Gk w' σ' g' τ' N' u' h' ∧ Q r w' σ' g' τ' N' u')
theorem P_gfl_len {s : Nat → Int} : ∀ {bs : List Bool} {f : Nat}, (P_gfl s bs f).length = bs.length
  | [], _ => rfl
  | false :: r, f => congrArg (· + 1) (P_gfl_len (bs := r))
  | true :: r, f => congrArg (· + 1) (P_gfl_len (bs := r))
theorem P_gfl_at {s : Nat → Int} : ∀ {bs : List Bool} {f j : Nat}, (P_gfl s bs f)[j]? = (bs[j]?).map (fun b => if b = true then P_rfv (s (f + j)) else P_z (s (f + j)))
  | [], f, j => rfl
  | b :: r, f, 0 => by cases b <;> rfl
  | b :: r, f, j + 1 => by
    have := P_gfl_at (s := s) (bs := r) (f := f + 1) (j := j)
    rw [show f + 1 + j = f + (j + 1) by omega] at this
    cases b <;> simpa only [P_gfl, List.getElem?_cons_succ] using this
theorem P_gfl_set {s : Nat → Int} {v : Int} {b : Bool} {j : Nat} {bs : List Bool} (hj : bs[j]? = some b) : (P_gfl s bs 0).set j (if b = true then P_rfv v else P_z v) = P_gfl (fun i => if i = j then v else s i) bs 0 := by
  apply List.ext_getElem?
  intro i
  rw [List.getElem?_set, P_gfl_at, P_gfl_at, P_gfl_len]
  by_cases e : j = i
  · subst e
    have hl : j < bs.length := (List.getElem?_eq_some_iff.mp hj).1
    rw [if_pos rfl, if_pos hl, hj]
    simp
  · rw [if_neg e]
    cases bs[i]? with
    | none => rfl
    | some x => simp only [Option.map_some, Nat.zero_add, show ¬ i = j from fun q => e q.symm, if_false]
section GW
variable {d y pc : Nat} {rt : Option FieldType} {hs : List (Nat × Nat × Nat × Nat × Nat)} {nx : Nat} {r1 : Int} {r2 : Nat} {kN kT : List Nat} {L L' st st' : List Value} {w : P_Lw} {σ : P_A} {g : P_Gl} {τ : P_A} {N u : Nat} {Q : P_GQ}
theorem P_gw_mono {Q' : P_GQ} (hw : P_gw d y pc L st w σ g τ N u Q) (hq : ∀ r w σ g τ N u, Q r w σ g τ N u → Q' r w σ g τ N u) : P_gw d y pc L st w σ g τ N u Q' := fun h hk => P_wp_mono (hw h hk) (fun _ _ ⟨a, b, c, e, f, i, x, z⟩ => ⟨a, b, c, e, f, i, x, hq _ _ _ _ _ _ _ z⟩)
theorem P_gw_stp {pc' : Nat} {L' st' : List Value} {w' : P_Lw} {σ' : P_A} {g' : P_Gl} {τ' : P_A} {N' u' : Nat} {i : Instr} (hi : P_in P_Y0 y pc rt hs i nx r1 r2 kN kT) (hd : ∀ h, P_Gk w σ g τ N u h → ∃ h', (∀ ex, P_do P_Y0 ex d rt hs pc L st h i nx r1 r2 kN kT = some (.inl (pc', L', st', h'))) ∧ P_Gk w' σ' g' τ' N' u' h') (k : P_gw d y pc' L' st' w' σ' g' τ' N' u' Q) : P_gw d y pc L st w σ g τ N u Q := by
  intro h hk
  obtain ⟨h', e, hk'⟩ := hd h hk
  exact P_wp_step hi e (k h' hk')
theorem P_gw_op {i : Instr} (hi : P_in P_Y0 y pc rt hs i nx r1 r2 kN kT) (ho : P_op i r1 r2 L st = some (L', st')) (k : P_gw d y nx (P_kill L' kN) st' w σ g τ N u Q) : P_gw d y pc L st w σ g τ N u Q :=
  P_gw_stp hi (fun h hk => ⟨h, fun ex => by unfold P_do; rw [ho], hk⟩) k
theorem P_gw_brt {i : Instr} (hi : P_in P_Y0 y pc rt hs i nx r1 r2 kN kT) (hb : P_br i st = some (true, st')) (k : P_gw d y r2 (P_kill L kT) st' w σ g τ N u Q) : P_gw d y pc L st w σ g τ N u Q :=
  P_gw_stp hi (fun h hk => ⟨h, fun ex => by unfold P_do; rw [P_br_none hb]; simp only; rw [hb], hk⟩) k
theorem P_gw_brf {i : Instr} (hi : P_in P_Y0 y pc rt hs i nx r1 r2 kN kT) (hb : P_br i st = some (false, st')) (k : P_gw d y nx (P_kill L kN) st' w σ g τ N u Q) : P_gw d y pc L st w σ g τ N u Q :=
  P_gw_stp hi (fun h hk => ⟨h, fun ex => by unfold P_do; rw [P_br_none hb]; simp only; rw [hb], hk⟩) k
theorem P_gw_ict {c : ClassFile.Cond} {o : Int} {a b : Int} (hi : P_in P_Y0 y pc rt hs (.if_icmp c o) nx r1 r2 kN kT) (ha : P_rg a) (hb : P_rg b) (hj : P_ci c a b = true) (k : P_gw d y r2 (P_kill L kT) st w σ g τ N u Q) : P_gw d y pc L (P_z b :: P_z a :: st) w σ g τ N u Q :=
  P_gw_brt hi (by simp only [P_br, P_cc_ci ha hb, hj]) k
theorem P_gw_icf {c : ClassFile.Cond} {o : Int} {a b : Int} (hi : P_in P_Y0 y pc rt hs (.if_icmp c o) nx r1 r2 kN kT) (ha : P_rg a) (hb : P_rg b) (hj : P_ci c a b = false) (k : P_gw d y nx (P_kill L kN) st w σ g τ N u Q) : P_gw d y pc L (P_z b :: P_z a :: st) w σ g τ N u Q :=
  P_gw_brf hi (by simp only [P_br, P_cc_ci ha hb, hj]) k
theorem P_gw_izt {c : ClassFile.Cond} {o : Int} {a : Int} (hi : P_in P_Y0 y pc rt hs (.ifCond c o) nx r1 r2 kN kT) (ha : P_rg a) (hj : P_ci c a 0 = true) (k : P_gw d y r2 (P_kill L kT) st w σ g τ N u Q) : P_gw d y pc L (P_z a :: st) w σ g τ N u Q :=
  P_gw_brt hi (by simp only [P_br, show (0 : Int32) = Int32.ofInt 0 from rfl, P_cc_ci ha (show P_rg 0 from ⟨by decide, by decide⟩), hj]) k
theorem P_gw_izf {c : ClassFile.Cond} {o : Int} {a : Int} (hi : P_in P_Y0 y pc rt hs (.ifCond c o) nx r1 r2 kN kT) (ha : P_rg a) (hj : P_ci c a 0 = false) (k : P_gw d y nx (P_kill L kN) st w σ g τ N u Q) : P_gw d y pc L (P_z a :: st) w σ g τ N u Q :=
  P_gw_brf hi (by simp only [P_br, show (0 : Int32) = Int32.ofInt 0 from rfl, P_cc_ci ha (show P_rg 0 from ⟨by decide, by decide⟩), hj]) k
theorem P_gw_goto {o : Int} (hi : P_in P_Y0 y pc rt hs (.goto o) nx r1 r2 kN kT) (k : P_gw d y r2 (P_kill L kT) st w σ g τ N u Q) : P_gw d y pc L st w σ g τ N u Q := P_gw_brt hi rfl k
theorem P_gw_lct {c : ClassFile.Cond} {o a b : Int} {nx2 r22 : Nat} {r12 : Int} {kN2 kT2 : List Nat} (h1 : P_in P_Y0 y pc rt hs .lcmp nx r1 r2 kN kT) (h2 : P_in P_Y0 y nx rt hs (.ifCond c o) nx2 r12 r22 kN2 kT2) (ha : P_rgl a) (hb : P_rgl b) (hj : P_ci c a b = true) (k : P_gw d y r22 (P_kill (P_kill L kN) kT2) st w σ g τ N u Q) : P_gw d y pc L (P_zl b :: P_zl a :: st) w σ g τ N u Q :=
  P_gw_op h1 (P_o_lcmp ha hb) (P_gw_izt h2 P_cmp_rg (P_ci_cmp.trans hj) k)
theorem P_gw_lcf {c : ClassFile.Cond} {o a b : Int} {nx2 r22 : Nat} {r12 : Int} {kN2 kT2 : List Nat} (h1 : P_in P_Y0 y pc rt hs .lcmp nx r1 r2 kN kT) (h2 : P_in P_Y0 y nx rt hs (.ifCond c o) nx2 r12 r22 kN2 kT2) (ha : P_rgl a) (hb : P_rgl b) (hj : P_ci c a b = false) (k : P_gw d y nx2 (P_kill (P_kill L kN) kN2) st w σ g τ N u Q) : P_gw d y pc L (P_zl b :: P_zl a :: st) w σ g τ N u Q :=
  P_gw_op h1 (P_o_lcmp ha hb) (P_gw_izf h2 P_cmp_rg (P_ci_cmp.trans hj) k)
theorem P_gw_sw {df lo hi' : Int} {offs : Array Int} {v : Int} {t : Nat} (hi : P_in P_Y0 y pc rt hs (.tableswitch df lo hi' offs) nx r1 r2 kN kT) (ht : (P_sw (.tableswitch df lo hi' offs) pc [P_z v]).map Prod.fst = some t) (k : P_gw d y t L st w σ g τ N u Q) : P_gw d y pc L (P_z v :: st) w σ g τ N u Q :=
  fun h hk => P_wp_step hi (fun _ => P_do_sw ht) (k h hk)
theorem P_gw_end {i : Instr} {v : Option Value} (hi : P_in P_Y0 y pc rt hs i nx r1 r2 kN kT) (ho : P_op i r1 r2 L st = none) (hb : P_br i st = none) (hp : ∀ h, P_hp P_Y0.1 P_Y0.2.1 i r1 r2 st h = none) (hr : P_ret rt i st = some v) (hq : Q (.inl v) w σ g τ N u) : P_gw d y pc L st w σ g τ N u Q := by
  intro h hk
  refine P_wp_end (x := (.inl v, h)) hi (fun ex => ?_) ⟨w, σ, g, τ, N, u, hk, hq⟩
  unfold P_do
  rw [ho]; simp only; rw [hb]; simp only; rw [hp]; simp only; rw [hr]
theorem P_gw_jdk {i : Instr} (hi : P_in P_Y0 y pc rt hs i nx r1 r2 kN kT) (ho : P_op i r1 r2 L st = none) (hb : P_br i st = none) (hp : ∀ h, P_hp P_Y0.1 P_Y0.2.1 i r1 r2 st h = none) (hr : P_ret rt i st = none) (hj : P_jdk i r2 st = some st') (k : P_gw d y nx (P_kill L kN) st' w σ g τ N u Q) : P_gw d y pc L st w σ g τ N u Q :=
  P_gw_stp hi (fun h hk => ⟨h, fun ex => by unfold P_do; rw [ho]; simp only; rw [hb]; simp only; rw [hp]; simp only; rw [hr]; simp only; rw [hj], hk⟩) k
/-- a call of the law's own -/
theorem P_gw_call {i : Instr} {y2 mx2 : Nat} {m2 : Option FieldType × (Nat → Option P_I) × List (Nat × Nat × Nat × Nat × Nat)} {as r0 : List Value} (hi : P_in P_Y0 y pc rt hs i nx r1 r2 kN kT) (ho : P_op i r1 r2 L st = none) (hb : P_br i st = none) (hp : ∀ h, P_hp P_Y0.1 P_Y0.2.1 i r1 r2 st h = none) (hr : P_ret rt i st = none) (hj : P_jdk i r2 st = none) (hsw : P_sw i pc st = none) (ht : P_thr i r2 st = none) (hv : ∀ h, P_Gk w σ g τ N u h → P_inv P_Y0.2.2.2 i r1 r2 st h = some (y2, as, r0)) (hcs : P_cs r0 ≤ 8) (h0 : y2 ≠ 0) (hm : P_Y0.2.2.1 y2 = some (mx2, m2)) (hl : (P_args as).length ≤ mx2)
    (k : P_gw d y2 0 (P_fit mx2 (P_args as)) [] w σ g τ N u (fun r w' σ' g' τ' N' u' => match r with
      | .inl v => P_gw (d + 1) y nx (P_kill L kN) (v.toList ++ r0) w' σ' g' τ' N' u' Q
      | .inr _ => False)) : P_gw (d + 1) y pc L st w σ g τ N u Q := by
  intro h hk
  refine P_wp_call hi ho hb (hp h) hr hj hsw ht (hv h hk) hcs h0 hm hl (P_wp_mono (k h hk) ?_)
  rintro (v | E) h1 ⟨w', σ', g', τ', N', u', a1, a2⟩
  · exact a2 h1 a1
  · exact a2.elim
/-- what the class leaves of the law's cells -/
theorem P_Gk_fr {σ' : P_A} {h h' : P_H} (hk : P_Gk w σ g τ N u h) (hW : P_Wk w σ' h') (hF : P_Fr w h h') : P_Gk w σ' g τ N u h' := by
  obtain ⟨k1, k2, k3, k4, Ls, xs, k5, k6⟩ := hk
  refine ⟨hW, fun a r sh e => ?_, hF.1.trans k3, by rw [hF.2.1]; exact k4, Ls, xs, k5, ?_⟩
  · obtain ⟨b1, b2, b3⟩ := k2 a r sh e
    exact ⟨b1, (hF.2.2 a (fun k hl => fun q => b3 k hl q.symm)).trans b2, b3⟩
  · exact (hF.2.2 0 (fun k hl => by have := (k1.1 k hl).1; omega)).trans k6
/-- a call of the class -/
theorem P_gw_cls {i : Instr} {y2 mx2 : Nat} {m2 : Option FieldType × (Nat → Option P_I) × List (Nat × Nat × Nat × Nat × Nat)} {as r0 : List Value} (hi : P_in P_Y0 y pc rt hs i nx r1 r2 kN kT) (ho : P_op i r1 r2 L st = none) (hb : P_br i st = none) (hp : ∀ h, P_hp P_Y0.1 P_Y0.2.1 i r1 r2 st h = none) (hr : P_ret rt i st = none) (hj : P_jdk i r2 st = none) (hsw : P_sw i pc st = none) (ht : P_thr i r2 st = none) (hv : ∀ h, P_Wk w σ h → P_inv P_Y0.2.2.2 i r1 r2 st h = some (y2, as, r0)) (hcs : P_cs r0 ≤ 8) (h0 : y2 ≠ 0) (hm : P_Y0.2.2.1 y2 = some (mx2, m2)) (hl : (P_args as).length ≤ mx2)
    (k : P_aw w d y2 0 (P_fit mx2 (P_args as)) [] σ (fun r σ' => match r with
      | .inl v => P_gw (d + 1) y nx (P_kill L kN) (v.toList ++ r0) w σ' g τ N u Q
      | .inr _ => False)) : P_gw (d + 1) y pc L st w σ g τ N u Q := by
  intro h hk
  refine P_wp_call hi ho hb (hp h) hr hj hsw ht (hv h hk.1) hcs h0 hm hl (P_wp_mono (k h hk.1) ?_)
  rintro (v | E) h1 ⟨σ', a1, a2, a3⟩
  · exact a3 h1 (P_Gk_fr hk a1 a2)
  · exact a3.elim
/-- what reads or writes the law's cells -/
theorem P_gw_hp {w' : P_Lw} {σ' : P_A} {g' : P_Gl} {τ' : P_A} {N' u' : Nat} {i : Instr} (hi : P_in P_Y0 y pc rt hs i nx r1 r2 kN kT) (ho : P_op i r1 r2 L st = none) (hb : P_br i st = none) (hh : ∀ h, P_Gk w σ g τ N u h → ∃ h', P_hp P_Y0.1 P_Y0.2.1 i r1 r2 st h = some (st', h') ∧ P_Gk w' σ' g' τ' N' u' h') (k : P_gw d y nx (P_kill L kN) st' w' σ' g' τ' N' u' Q) : P_gw d y pc L st w σ g τ N u Q := by
  refine P_gw_stp hi (fun h hk => ?_) k
  obtain ⟨h', e, hk'⟩ := hh h hk
  exact ⟨h', fun ex => by unfold P_do; rw [ho]; simp only; rw [hb]; simp only; rw [e], hk'⟩
/-- a cell of the law's is written -/
theorem P_Gk_set {h : P_H} {a r : Nat} {sh : P_Sg} {j : Nat} {v : Int} (hk : P_Gk w σ g τ N u h) (ha : g a = some (r, sh)) : P_Gk w σ g (P_u2 τ a j v) N u (P_set h a (P_gcl sh (P_u2 τ a j v a))) := by
  obtain ⟨k1, k2, k3, k4, Ls, xs, k5, k6⟩ := hk
  obtain ⟨a1, a2, a3⟩ := k2 a r sh ha
  have hlt : a < h.1.length := (List.getElem?_eq_some_iff.mp a2).1
  refine ⟨⟨fun k hl => ?_, k1.2.1, ?_⟩, fun b rb shb hb => ?_, ?_, k4, Ls, xs, k5, ?_⟩
  · obtain ⟨b1, b2⟩ := k1.1 k hl
    refine ⟨b1, ?_⟩
    simp only [P_set, List.getElem?_set]
    rw [if_neg (fun q => a3 k hl q.symm)]
    exact b2
  · simp only [P_set, List.getElem?_set]
    rw [if_neg (by omega)]
    exact k1.2.2
  · obtain ⟨b1, b2, b3⟩ := k2 b rb shb hb
    refine ⟨b1, ?_, b3⟩
    simp only [P_set, List.getElem?_set]
    by_cases e : a = b
    · subst e
      cases ha.symm.trans hb
      rw [if_pos rfl, if_pos hlt]
    · rw [if_neg e, b2, P_u2_row b (fun q => e q.symm)]
  · simp only [P_set, List.length_set]; exact k3
  · simp only [P_set, List.getElem?_set]
    rw [if_neg (by omega)]
    exact k6
/-- a cell more -/
def P_gN (g : P_Gl) (N r : Nat) (sh : P_Sg) : P_Gl := fun a => if a = N then some (r, sh) else g a
def P_tN (τ : P_A) (N : Nat) (s : Nat → Int) : P_A := fun a => if a = N then s else τ a
theorem P_gN_at {r : Nat} {sh : P_Sg} : P_gN g N r sh N = some (r, sh) := if_pos rfl
theorem P_gN_ne {r a : Nat} {sh : P_Sg} (h : a ≠ N) : P_gN g N r sh a = g a := if_neg h
theorem P_tN_at {s : Nat → Int} {j : Nat} : P_tN τ N s N j = s j := by unfold P_tN; rw [if_pos rfl]
theorem P_tN_ne {s : Nat → Int} {a j : Nat} (h : a ≠ N) : P_tN τ N s a j = τ a j := by unfold P_tN; rw [if_neg h]
theorem P_Gk_lt {h : P_H} (hk : P_Gk w σ g τ N u h) {a r : Nat} {sh : P_Sg} (ha : g a = some (r, sh)) : 2 ≤ a ∧ a < N := by
  obtain ⟨a1, a2, -⟩ := hk.2.1 a r sh ha
  exact ⟨a1, by rw [← hk.2.2.1]; exact (List.getElem?_eq_some_iff.mp a2).1⟩
theorem P_Gk_N2 {h : P_H} (hk : P_Gk w σ g τ N u h) : 2 ≤ N := by
  have := (List.getElem?_eq_some_iff.mp hk.1.2.2).1
  rw [hk.2.2.1] at this
  omega
theorem P_Gk_new {h : P_H} {r n : Nat} {sh : P_Sg} {s : Nat → Int} {e : P_E} (hk : P_Gk w σ g τ N u h) (he : P_gcl sh s = e) : P_Gk w σ (P_gN g N r sh) (P_tN τ N s) (N + 1) (u + n + 1) (P_add h e n) := by
  have hN2 := P_Gk_N2 hk
  have hlt := fun a r sh => P_Gk_lt (a := a) (r := r) (sh := sh) hk
  obtain ⟨k1, k2, k3, k4, Ls, xs, k5, k6⟩ := hk
  have hold : ∀ a, a < N → (P_add h e n).1[a]? = h.1[a]? := fun a ha => by simp only [P_add]; rw [List.getElem?_append_left (by omega)]
  refine ⟨⟨fun k hl => ?_, k1.2.1, (hold 1 (by omega)).trans k1.2.2⟩, fun b rb shb hb => ?_, by simp only [P_add, List.length_append, List.length_cons, List.length_nil]; omega, ⟨by simp only [P_add]; omega, by simp only [P_add]; omega⟩, Ls, xs, k5, (hold 0 (by omega)).trans k6⟩
  · obtain ⟨b1, b2⟩ := k1.1 k hl
    have := (List.getElem?_eq_some_iff.mp b2).1
    exact ⟨b1, (hold _ (by omega)).trans b2⟩
  · by_cases eb : b = N
    · subst eb
      rw [P_gN_at] at hb
      cases hb
      refine ⟨hN2, ?_, fun k hl q => ?_⟩
      · simp only [P_add]
        rw [← k3, List.getElem?_append_right (Nat.le_refl _), Nat.sub_self]
        have : P_tN τ h.1.length s h.1.length = s := by unfold P_tN; rw [if_pos rfl]
        rw [this, he]
        rfl
      · have := (List.getElem?_eq_some_iff.mp (k1.1 k hl).2).1
        omega
    · rw [P_gN_ne eb] at hb
      obtain ⟨b1, b2, b3⟩ := k2 b rb shb hb
      have h1 := (hlt b rb shb hb).2
      refine ⟨b1, (hold b h1).trans ?_, b3⟩
      rw [b2]
      unfold P_tN
      rw [if_neg eb]
section OBJ
variable {a r : Nat} {ci : Nat} {bs : List Bool} {idx : Nat}
theorem P_gcl_o {s : Nat → Int} : P_gcl (.inl (ci, bs)) s = .inr (ci, P_gfl s bs 0) := rfl
theorem P_gw_getv {v : Int} (hi : P_in P_Y0 y pc rt hs (.getfield idx) nx r1 r2 kN kT) (ha : g a = some (r, .inl (ci, bs))) (hz : P_subt r1.toNat ci = true) (hf : bs[r2]? = some false) (hv : τ a r2 = v) (kk : P_gw d y nx (P_kill L kN) (P_z v :: st) w σ g τ N u Q) : P_gw d y pc L (.ref a :: st) w σ g τ N u Q := by
  refine P_gw_hp hi rfl rfl (fun h hk => ⟨h, ?_, hk⟩) kk
  obtain ⟨g1, g2, -⟩ := hk.2.1 a r _ ha
  simp only [P_hp, g2, P_gcl]
  rw [if_pos ⟨g1, hz⟩, P_gfl_at, hf]
  simp only [Option.map_some, Nat.zero_add, hv]
  rfl
theorem P_gw_getR {b : Nat} (hi : P_in P_Y0 y pc rt hs (.getfield idx) nx r1 r2 kN kT) (ha : g a = some (r, .inl (ci, bs))) (hz : P_subt r1.toNat ci = true) (hf : bs[r2]? = some true) (hv : τ a r2 = ((b : Nat) : Int)) (kk : P_gw d y nx (P_kill L kN) (.ref b :: st) w σ g τ N u Q) : P_gw d y pc L (.ref a :: st) w σ g τ N u Q := by
  refine P_gw_hp hi rfl rfl (fun h hk => ⟨h, ?_, hk⟩) kk
  obtain ⟨g1, g2, -⟩ := hk.2.1 a r _ ha
  simp only [P_hp, g2, P_gcl]
  rw [if_pos ⟨g1, hz⟩, P_gfl_at, hf]
  simp only [Option.map_some, Nat.zero_add, hv, if_true, P_rfv]
  rw [if_neg (by omega), Int.toNat_natCast]
theorem P_gw_put {v : Int} (hi : P_in P_Y0 y pc rt hs (.putfield idx) nx r1 r2 kN kT) (ha : g a = some (r, .inl (ci, bs))) (hz : P_subt r1.toNat ci = true) (hf : bs[r2]? = some false) (ht : P_fits (P_Z0.2.2 ci r2) (P_z v) = true) (kk : P_gw d y nx (P_kill L kN) st w σ g (P_u2 τ a r2 v) N u Q) : P_gw d y pc L (P_z v :: .ref a :: st) w σ g τ N u Q := by
  refine P_gw_hp hi rfl rfl (fun h hk => ?_) kk
  obtain ⟨g1, g2, -⟩ := hk.2.1 a r _ ha
  refine ⟨_, ?_, P_Gk_set hk ha⟩
  simp only [P_hp, g2, P_gcl]
  rw [if_pos ⟨g1, hz, ht, by rw [P_gfl_len]; exact (List.getElem?_eq_some_iff.mp hf).1⟩, P_u2_self, ← P_gfl_set hf]
  rfl
theorem P_gw_putR {b : Nat} (hi : P_in P_Y0 y pc rt hs (.putfield idx) nx r1 r2 kN kT) (ha : g a = some (r, .inl (ci, bs))) (hz : P_subt r1.toNat ci = true) (hf : bs[r2]? = some true) (ht : ∀ b, P_fits (P_Z0.2.2 ci r2) (.ref b) = true) (kk : P_gw d y nx (P_kill L kN) st w σ g (P_u2 τ a r2 ((b : Nat) : Int)) N u Q) : P_gw d y pc L (.ref b :: .ref a :: st) w σ g τ N u Q := by
  refine P_gw_hp hi rfl rfl (fun h hk => ?_) kk
  obtain ⟨g1, g2, -⟩ := hk.2.1 a r _ ha
  refine ⟨_, ?_, P_Gk_set hk ha⟩
  simp only [P_hp, g2, P_gcl]
  rw [if_pos ⟨g1, hz, ht b, by rw [P_gfl_len]; exact (List.getElem?_eq_some_iff.mp hf).1⟩, P_u2_self, ← P_gfl_set hf]
  simp only [if_true, P_rfv]
  rw [if_neg (by omega), Int.toNat_natCast]
end OBJ
section ARR
variable {a r n : Nat} {i v : Int}
theorem P_gw_ald (hi : P_in P_Y0 y pc rt hs .iaload nx r1 r2 kN kT) (ha : g a = some (r, .inr (.inl n))) (h0 : 0 ≤ i) (h1 : i < n) (hn : n ≤ 65536) (hv : τ a i.toNat = v) (kk : P_gw d y nx (P_kill L kN) (P_z v :: st) w σ g τ N u Q) : P_gw d y pc L (P_z i :: .ref a :: st) w σ g τ N u Q := by
  refine P_gw_hp hi rfl rfl (fun h hk => ⟨h, ?_, hk⟩) kk
  obtain ⟨g1, g2, -⟩ := hk.2.1 a r _ ha
  simp only [P_hp, g2, P_gcl, P_ixz h0 h1 hn, Option.bind_some, hv]
theorem P_gw_ast (hi : P_in P_Y0 y pc rt hs .iastore nx r1 r2 kN kT) (ha : g a = some (r, .inr (.inl n))) (h0 : 0 ≤ i) (h1 : i < n) (hn : n ≤ 65536) (kk : P_gw d y nx (P_kill L kN) st w σ g (P_u2 τ a i.toNat v) N u Q) : P_gw d y pc L (P_z v :: P_z i :: .ref a :: st) w σ g τ N u Q := by
  refine P_gw_hp hi rfl rfl (fun h hk => ?_) kk
  obtain ⟨g1, g2, -⟩ := hk.2.1 a r _ ha
  refine ⟨_, ?_, P_Gk_set hk ha⟩
  simp only [P_hp, g2, P_gcl]
  rw [if_pos (show P_Y0.2.1 ≤ a from g1), P_ixz h0 h1 hn, P_u2_self]
  simp only [Option.bind_some]
  have : (fun j => Int32.ofInt (if j = i.toNat then v else τ a j)) = upd (fun j => Int32.ofInt (τ a j)) i.toNat (Int32.ofInt v) := by
    funext j
    unfold upd
    split <;> rfl
  rw [this]
theorem P_gw_alen (hi : P_in P_Y0 y pc rt hs .arraylength nx r1 r2 kN kT) (ha : g a = some (r, .inr (.inl n))) (kk : P_gw d y nx (P_kill L kN) (P_z (n : Int) :: st) w σ g τ N u Q) : P_gw d y pc L (.ref a :: st) w σ g τ N u Q := by
  refine P_gw_hp hi rfl rfl (fun h hk => ⟨h, ?_, hk⟩) kk
  obtain ⟨g1, g2, -⟩ := hk.2.1 a r _ ha
  simp only [P_hp, g2, P_gcl]
  rw [if_pos (show P_Y0.2.1 ≤ a ∨ _ from Or.inl g1)]
  simp only [P_z, Int32.ofInt_eq_ofNat]
variable {ty : Nat}
theorem P_gw_rlen (hi : P_in P_Y0 y pc rt hs .arraylength nx r1 r2 kN kT) (ha : g a = some (r, .inr (.inr (ty, n)))) (kk : P_gw d y nx (P_kill L kN) (P_z (n : Int) :: st) w σ g τ N u Q) : P_gw d y pc L (.ref a :: st) w σ g τ N u Q := by
  refine P_gw_hp hi rfl rfl (fun h hk => ⟨h, ?_, hk⟩) kk
  obtain ⟨g1, g2, -⟩ := hk.2.1 a r _ ha
  simp only [P_hp, g2, P_gcl]
  rw [if_pos (show P_Y0.2.1 ≤ a ∨ _ from Or.inl g1)]
  simp only [P_z, Int32.ofInt_eq_ofNat]
theorem P_gw_rld {b : Nat} (hi : P_in P_Y0 y pc rt hs .aaload nx r1 r2 kN kT) (ha : g a = some (r, .inr (.inr (ty, n)))) (hty : 4 ≤ ty) (h0 : 0 ≤ i) (h1 : i < n) (hn : n ≤ 65536) (hv : τ a i.toNat = ((b : Nat) : Int)) (kk : P_gw d y nx (P_kill L kN) (.ref b :: st) w σ g τ N u Q) : P_gw d y pc L (P_z i :: .ref a :: st) w σ g τ N u Q := by
  refine P_gw_hp hi rfl rfl (fun h hk => ⟨h, ?_, hk⟩) kk
  obtain ⟨g1, g2, -⟩ := hk.2.1 a r _ ha
  simp only [P_hp, g2, P_gcl]
  rw [if_pos ⟨g1, hty⟩, P_ixz h0 h1 hn]
  simp only [Option.bind_some, P_rfo, hv]
  rw [if_neg (by omega), Int.toNat_natCast]
  rfl
/-- of what kind a row is -/
def P_gkd (sh : P_Sg) : Nat := match sh with
  | .inl _ => 999
  | .inr (.inl _) => 0
  | .inr (.inr (ty, _)) => ty
theorem P_gcl_k {sh : P_Sg} {s : Nat → Int} (h : P_gkd sh ≠ 999) : ∃ m f, P_gcl sh s = .inl (P_gkd sh, m, f) := by
  rcases sh with ⟨ci, bs⟩ | n | ⟨ty, n⟩
  · exact absurd rfl h
  · exact ⟨n, _, rfl⟩
  · exact ⟨n, _, rfl⟩
theorem P_gw_rst {x rx : Nat} {sx : P_Sg} (hi : P_in P_Y0 y pc rt hs .aastore nx r1 1 kN kT) (ha : g a = some (r, .inr (.inr (ty, n)))) (hx : g x = some (rx, sx)) (hty : P_up (P_gkd sx) = ty) (hty2 : 200 ≤ ty) (h0 : 0 ≤ i) (h1 : i < n) (hn : n ≤ 65536) (kk : P_gw d y nx (P_kill L kN) st w σ g (P_u2 τ a i.toNat ((x : Nat) : Int)) N u Q) : P_gw d y pc L (.ref x :: P_z i :: .ref a :: st) w σ g τ N u Q := by
  refine P_gw_hp hi rfl rfl (fun h hk => ?_) kk
  obtain ⟨g1, g2, -⟩ := hk.2.1 a r _ ha
  obtain ⟨g3, g4, -⟩ := hk.2.1 x rx _ hx
  obtain ⟨m, f, e⟩ := P_gcl_k (sh := sx) (s := τ x) (fun q => by rw [q] at hty; unfold P_up at hty; simp at hty; omega)
  rw [e] at g4
  refine ⟨_, ?_, P_Gk_set hk ha⟩
  simp only [P_hp, g2, P_gcl, g4]
  rw [if_pos ⟨g1, g3, hty, hty2, trivial⟩, P_ixz h0 h1 hn, P_u2_self]
  simp only [Option.bind_some]
  have : (fun j => P_rfo (if j = i.toNat then ((x : Nat) : Int) else τ a j)) = va_up (fun j => P_rfo (τ a j)) i.toNat (some x) := by
    funext j
    unfold va_up
    split
    · unfold P_rfo; rw [if_neg (by omega), Int.toNat_natCast]
    · rfl
  rw [this]
/-- new rows -/
theorem P_gw_newi {t : ArrayType} (ro : Nat) (hi : P_in P_Y0 y pc rt hs (.newarray t) nx r1 0 kN kT) (h0 : 0 ≤ i) (h1 : i ≤ 65536) (kk : P_gw d y nx (P_kill L kN) (.ref N :: st) w σ (P_gN g N ro (.inr (.inl i.toNat))) (P_tN τ N (fun _ => 0)) (N + 1) (u + i.toNat + 1) Q) : P_gw d y pc L (P_z i :: st) w σ g τ N u Q := by
  have hr : P_rg i := ⟨by omega, by omega⟩
  have hc : (Int32.ofInt i).toNatClampNeg = i.toNat := Int32.toNatClampNeg_ofInt_of_le (by omega) (by omega)
  have hn : ¬ Int32.ofInt i < 0 := by
    rw [Int32.lt_iff_toInt_lt, P_toInt hr]
    have : (0 : Int32).toInt = 0 := by decide
    omega
  refine P_gw_hp hi rfl rfl (fun h hk => ?_) kk
  refine ⟨P_add h (P_row 0 i.toNat) i.toNat, ?_, P_Gk_new hk rfl⟩
  simp only [P_hp, P_new, hc]
  rw [if_pos (by decide), if_neg (by rintro (q | q); exact hn q; omega), hk.2.2.1]
theorem P_gw_newr (ro : Nat) {idx : Nat} (hi : P_in P_Y0 y pc rt hs (.anewarray idx) nx r1 200 kN kT) (h0 : 0 ≤ i) (h1 : i ≤ 65536) (kk : P_gw d y nx (P_kill L kN) (.ref N :: st) w σ (P_gN g N ro (.inr (.inr (200, i.toNat)))) (P_tN τ N (fun _ => -1)) (N + 1) (u + i.toNat + 1) Q) : P_gw d y pc L (P_z i :: st) w σ g τ N u Q := by
  have hr : P_rg i := ⟨by omega, by omega⟩
  have hc : (Int32.ofInt i).toNatClampNeg = i.toNat := Int32.toNatClampNeg_ofInt_of_le (by omega) (by omega)
  have hn : ¬ Int32.ofInt i < 0 := by
    rw [Int32.lt_iff_toInt_lt, P_toInt hr]
    have : (0 : Int32).toInt = 0 := by decide
    omega
  refine P_gw_hp hi rfl rfl (fun h hk => ?_) kk
  refine ⟨P_add h (P_row 200 i.toNat) i.toNat, ?_, P_Gk_new hk rfl⟩
  simp only [P_hp, P_new, hc]
  rw [if_pos (by decide), if_neg (by rintro (q | q); exact hn q; omega), hk.2.2.1]
/-- a new object -/
theorem P_gw_newo (ro : Nat) {idx ci : Nat} {bs : List Bool} {s : Nat → Int} (hi : P_in P_Y0 y pc rt hs (.new idx) nx r1 ci kN kT) (hci : ci < 1000) (hs' : P_gfl s bs 0 = P_Z0.1 ci) (kk : P_gw d y nx (P_kill L kN) (.ref N :: st) w σ (P_gN g N ro (.inl (ci, bs))) (P_tN τ N s) (N + 1) (u + bs.length + 1) Q) : P_gw d y pc L st w σ g τ N u Q := by
  refine P_gw_hp hi rfl rfl (fun h hk => ?_) kk
  have hl : (P_Z0.1 ci).length = bs.length := by rw [← hs', P_gfl_len]
  refine ⟨P_add h (.inr (ci, P_Z0.1 ci)) (P_Z0.1 ci).length, ?_, ?_⟩
  · simp only [P_hp]
    rw [if_pos hci, hk.2.2.1]
    rfl
  · rw [hl]
    exact P_Gk_new hk (by rw [P_gcl_o, hs'])
end ARR
end GW
