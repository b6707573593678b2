/-! THE TIE, 13: the step of the induction -/
section WK4
variable {cl : List vw_C} {aty : Nat → FieldType} {stat : P_T} {nc : List (String × String)} {tx : List (String × Nat × String)} {N : P_N} {Tg T2 : List Jvm.Cond} {Y : P_Y} {l : Launch}
theorem P_vo_list {ρ : List Nat} {v v' : Option Value} {r r' : List Value} (h : P_vo ρ v v') (hr : P_vs ρ r r') : P_vs ρ (v.toList ++ r) (v'.toList ++ r') := by
  cases v with
  | none =>
    cases v' with
    | none => exact hr
    | some b => exact h.elim
  | some a =>
    cases v' with
    | none => exact h.elim
    | some b => exact ⟨h, hr⟩
set_option maxHeartbeats 2000000 in
theorem P_walk_step (hok : P_ok cl aty stat nc tx N Tg T2 Y) (hl : tx = [] ∨ l.stackTraces = false) {n : Nat} (ih : P_Walk cl aty stat nc tx N Tg T2 Y l n) : P_Walk cl aty stat nc tx N Tg T2 Y l (n + 1) := by
  intro d y pc L st h r h1 hx mx rt cd hs hy p e R s m args below meth c Q D A ro ρ0 k0 k1 hC htab hE hRf hRl hRc hRs kret kthr kprop H locs cells slots ws tys ls st' hsub hW hk0 hk1 hL hst
  have hmono := P_ex_mono _ _ _ _ _ _ hx
  simp only at hmono
  obtain ⟨mx', rt', cd', hs', i, nx, r1, r2, kN, kT, o, hy', hc, hd, ho⟩ := P_ex_inv hx
  cases hy.symm.trans hy'
  obtain ⟨o1, o2, o3, o5, o4⟩ := id hok
  obtain ⟨m1, m2, m3, m4⟩ := o4 y mx rt cd hs hy
  obtain ⟨e1, e2, e3, e4, e5, e6, e7, e8, e9⟩ := m4 pc i nx r1 r2 kN kT hc
  obtain ⟨hxx, hb, hml, hown, hts, hlocks, hini⟩ := id hC
  have hroN : ro.length = Y.2.1 := hW.2.2.2.2.2.1
  -- going on inside the frame
  have go : ∀ (pc' : Nat) (L' st2 : List Value) (h' : P_H), P_ex Y n d y (pc', L', st2, h') = some (r, h1) → ∀ (H : Heap) (locs : List Loc) (cells slots : Nat) (ws : va_W) (tys : List (ClassId × FieldType)) (ls : Array Slot) (st' : List Value), P_sub ρ0 (P_rho ro ws) → P_Wd cl aty Y.2.1 stat D A s H locs ro ws tys h'.1 → cells + k0 = h'.2.1 → slots + k1 = h'.2.2 → P_L (P_rho ro ws) L' ls mx → P_vs (P_rho ro ws) st2 st' → W p l e R s m args below meth c H locs cells slots Q (F0 m pc' ls st') := by
    intro pc' L' st2 h' hx'
    exact ih d y pc' L' st2 h' r h1 hx' mx rt cd hs hy p e R s m args below meth c Q D A ro ρ0 k0 k1 hC htab hE hRf hRl hRc hRs kret kthr kprop
  have next : ∀ (s2 : P_S), o = .inl s2 → P_ex Y n d y s2 = some (r, h1) := by
    intro s2 hs2
    rcases ho with ⟨s3, h3, h4⟩ | h3
    · cases h3.symm.trans hs2
      exact h4
    · cases h3.symm.trans hs2
  rcases P_do_inv hd with ⟨L', st2, he, rfl⟩ | ⟨j, st2, he, rfl⟩ | ⟨st2, h', he, rfl⟩ | ⟨v, he, rfl⟩ | ⟨st2, he, rfl⟩ | ⟨t, st2, he, rfl⟩ | ⟨E, he, rfl⟩ | ⟨y2, as, r0, d', x, h', he, hcs, rfl, hcal, hout⟩
  · obtain ⟨g1, g2⟩ := e2 (P_op_sw he)
    have hx' := next _ rfl
    refine P_op_ok hxx hb hown g1 (P_ldm_ok hts e4) hL hst he (fun ls' ws' b1 b2 => ?_)
    rw [← g2]
    exact go _ _ _ _ hx' H locs cells slots ws tys ls' ws' hsub hW hk0 hk1 (b1.kill kN) b2
  · obtain ⟨g1, g2⟩ := e2 (P_br_sw he)
    have hx' := next _ rfl
    refine P_br_ok hxx hb g1 e3 hst he (fun ws' b2 => ?_)
    rw [← g2]
    exact go _ _ _ _ hx' H locs cells slots ws tys ls ws' hsub hW hk0 hk1 (hL.kill _) b2
  · obtain ⟨g1, g2⟩ := e2 (P_hp_sw he)
    have hx' := next _ rfl
    have hm2 := P_ex_mono _ _ _ _ _ _ hx'
    simp only at hm2
    refine P_hp_ok hC hW o1 o2 hL (by omega) (by omega) e5 g1 hst he (by omega) (by omega) (fun H1 locs1 ws1 tys1 ws' c1 s1 b1 b2 b3 b4 b5 => ?_)
    rw [← g2]
    exact go _ _ _ _ hx' H1 locs1 c1 s1 ws1 tys1 ls ws' (P_sub_tr hsub b1) b2 (by omega) (by omega) ((hL.mono b1).kill _) b5
  · obtain ⟨g0, g3⟩ := P_ret_len he
    obtain ⟨g1, g2⟩ := e2 g3
    rw [g0] at g1
    rcases ho with ⟨s3, h3, -⟩ | h3
    · cases h3
    · cases h3
      exact kret v i pc H locs cells slots ws tys ls st st' rfl g1 he hst hsub hW hk0 hk1
  · obtain ⟨g0, g3⟩ := P_jdk_len he
    obtain ⟨g1, g2⟩ := e2 g3
    rw [g0] at g1 g2
    have hx' := next _ rfl
    refine P_jdk_ok hC hL e6 g1 hst he (by omega) (by omega) (by omega) (by omega) (fun ws' b2 => ?_)
    rw [← g2]
    exact go _ _ _ _ hx' H locs cells slots ws tys ls ws' hsub hW hk0 hk1 (hL.kill _) b2
  · obtain ⟨⟨len, g1⟩, g2⟩ := e1 (P_sw_sw he)
    have hx' := next _ rfl
    refine P_sw_ok hxx hb g1 hst he g2 (fun ws' b2 => ?_)
    exact go _ _ _ _ hx' H locs cells slots ws tys ls ws' hsub hW hk0 hk1 hL b2
  · rcases ho with ⟨s3, h3, -⟩ | h3
    · cases h3
    · cases h3
      cases i with
      | new idx =>
        simp only [P_thr] at he
        split at he
        · next hcond =>
          have he := Option.some.inj he
          subst he
          obtain ⟨b1, b2, b3⟩ := hcond
          have hst0 : st = [] := List.isEmpty_iff.mp b3
          subst hst0
          rw [P_vs_nil hst]
          obtain ⟨g1, g2⟩ := e2 rfl
          have hls : ls.size = mx := by
            obtain ⟨-, l0, q1, -⟩ := hL
            exact q1.1
          exact kthr idx r2 pc H locs cells slots ws tys ls rfl b1 b2 g1 e8 hls hsub hW (by show cells + 1 + k0 = h.2.1 + 1; omega) (by show slots + 6 + k1 = h.2.2 + 6; omega)
        · cases he
      | _ => cases he
  · obtain ⟨g0, g3⟩ := P_inv_len he
    obtain ⟨g1, g2⟩ := e2 g3
    rw [g0] at g1 g2
    obtain ⟨mx2, rt2, q1, q2, q3⟩ := P_ct_of hok hl ih hcal
    have hcm : h.2.1 ≤ h'.2.1 ∧ h.2.2 ≤ h'.2.2 := by
      unfold P_cal at hcal
      split at hcal
      · cases hcal
      split at hcal
      · cases hcal
      · split at hcal
        · exact P_ex_mono _ _ _ _ _ _ hcal
        · cases hcal
    have hfin : h'.2.1 ≤ h1.2.1 ∧ h'.2.2 ≤ h1.2.2 := by
      rcases hout with ⟨v, -, hq⟩ | ⟨E, p2, k, -, -, -, hq⟩ | ⟨E, -, -, hq⟩
      · exact P_ex_mono _ _ _ _ _ _ (next _ hq)
      · exact P_ex_mono _ _ _ _ _ _ (next _ hq)
      · rcases ho with ⟨s3, h3, -⟩ | h3
        · cases h3.symm.trans hq
        · cases h3.symm.trans hq
          exact ⟨Nat.le_refl _, Nat.le_refl _⟩
    obtain ⟨as', rest, aa, hrest, hrun⟩ := P_call_ok (cells := cells) (slots := slots) o5 hC hW hE o3 hL e7 g1 hst he (Nat.le_of_not_lt hcs) q1 q3 (by omega) (by omega) (by omega) (by omega) q2
    refine P_run_ok hW hrun (fun v v' H1 locs1 ws1 tys1 b1 b2 b3 b4 => ?_) (fun k q ce H1 locs1 ws1 tys1 b1 bk b2 b3 b4 b5 b6 => ?_)
    · rcases hout with ⟨v2, c1, hq⟩ | ⟨E, p2, k, c1, -, -, -⟩ | ⟨E, c1, -, -⟩
      · cases c1.symm.trans b1
        rw [← g2]
        exact go _ _ _ _ (next _ hq) H1 locs1 _ _ ws1 tys1 ls _ (P_sub_tr hsub b3) b4 (by omega) (by omega) ((hL.mono b3).kill _) (P_vo_list b2 (hrest.mono b3))
      · cases c1.symm.trans b1
      · cases c1.symm.trans b1
    · have e9 := e9 k bk
      rcases hout with ⟨v2, c1, hq⟩ | ⟨E, p2, kk, c1, c2, c3, hq⟩ | ⟨E, c1, c2, hq⟩
      · cases c1.symm.trans b1
      · cases c1.symm.trans b1
        have htab := htab.resolve_left (fun z => by rw [z] at c2; cases c2)
        rw [c2] at e9
        obtain ⟨pre, z, suf, name, w1, w2, w3, w4, w5, w6, w7⟩ := e9
        obtain ⟨l0, u1, u2⟩ := (hL.mono b5).stun (i := kk) (v' := .ref q)
        have hlt : kk < mx := by rw [← hL.1]; exact c3
        refine vx_catch (E := N.2.2.2.2 k) (name := name) hown pre z suf (by rw [htab]; exact w1) (fun z hz => (w2 z hz).imp id (fun u => ⟨u.1, ?_⟩)) w3 w4 (hts _ w5) (hts _ w6) b2 b3 b4 ?_
        · obtain ⟨-, nm, u2, u3⟩ := u
          exact ⟨nm, hts _ u2, hE.2.2.1 _ u3⟩
        · rcases w7 with ⟨w7, w8⟩ | ⟨k', w7, w8, w9⟩
          · refine lv_astore hxx hb w7 u1 hlt rfl (fun ls' hls' => ?_)
            rw [← w8]
            exact go _ _ _ _ (next _ hq) H1 locs1 _ _ ws1 tys1 ls' [] (P_sub_tr hsub b5) b6 (by omega) (by omega) (u2 ls' hls') trivial
          · subst w8
            refine lv_astore_n hxx hb w7 rfl u1 hlt rfl (fun ls' hls' => ?_)
            rw [← w9]
            exact go _ _ _ _ (next _ hq) H1 locs1 _ _ ws1 tys1 ls' [] (P_sub_tr hsub b5) b6 (by omega) (by omega) (u2 ls' hls') trivial
      · cases c1.symm.trans b1
        rw [c2] at e9
        rcases ho with ⟨s3, h3, -⟩ | h3
        · cases h3.symm.trans hq
        · cases h3.symm.trans hq
          refine kprop k q ce pc H1 locs1 _ _ ws1 tys1 ls rest rfl bk (fun htab z hz => ?_) b2 b3 b4 (P_sub_tr hsub b5) b6 (by omega) (by omega)
          rw [htab] at hz
          exact (e9 z hz).imp id (fun u => ⟨u.1, by
            obtain ⟨-, nm, u2, u3⟩ := u
            exact ⟨nm, hts _ u2, hE.2.2.1 _ u3⟩⟩)
theorem P_walk (hok : P_ok cl aty stat nc tx N Tg T2 Y) (hl : tx = [] ∨ l.stackTraces = false) : ∀ n, P_Walk cl aty stat nc tx N Tg T2 Y l n := by
  intro n
  induction n with
  | zero =>
    intro d y pc L st h r h1 hx
    cases hx
  | succ n ih => exact P_walk_step hok hl ih
end WK4
