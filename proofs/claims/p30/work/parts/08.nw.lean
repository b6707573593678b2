/-! THE TIE, 7: what is made -/
section NW
variable {p : Program} {l : Launch} {e : Env} {R : Room} {s : State} {m : MethodId} {args : Array Value} {below : List Frame} {meth : Method} {c : Code} {H H0 : Heap} {locs : List Loc} {cells slots : Nat} {Q : State → Prop} {cc : ByteArray} {pc nL : Nat} {ls : Array Slot} {rest : List Value} {L L1 st st1 st' : List Value}
variable {cl : List vw_C} {aty : Nat → FieldType} {nro : Nat} {stat : P_T} {D : va_G} {A : Nat → Prop} {ro : List Nat} {ws : va_W} {tys : List (ClassId × FieldType)} {h h1 : P_H} {Z : P_Z} {Tb : List Jvm.Cond} {own : String} {ini : Bool} {r1 : Int} {r2 : Nat}
/-- a row of rows: as va_newq, after the kit's -/
theorem P_newr (hx : p.tables.exec = Jvm.exec) (hb : c.code = cc) {t : FieldType} {index : Nat} (hown : s.vm.findClass own = some m.cls) (hclink : (Jvm.Cond.classLink own index (FieldType.array t).toString).before args s = true) (hover : (Jvm.Cond.arrayOver (.array t)).before args s = true) (hK : va_K D cl tys s) (hP : va_P D cl ws H) (hD : va_D A ws) (hS : va_S A H0 H locs) (hA : ∀ q, H0.size ≤ q → A q)
    {n : Int32} {N' : Nat} (hn : ¬ n < 0) (hN : n.toNatClampNeg = N') (hbytes : N' * 4 ≤ 536870912) (hcells : cells + 1 ≤ R.cells) (hslots : slots + N' ≤ R.slots) (hdg : decode cc pc = .ok (.anewarray index, 3))
    (kk : ∀ (q : Nat) (cA : ClassId) (H1 : Heap), va_K D cl (tys ++ [(cA, .array t)]) s → va_P D cl (ws ++ [(q, .inl (cA, N', .inr (.inr (.inr (.inr (fun _ => none))))))]) H1 → va_D A (ws ++ [(q, .inl (cA, N', .inr (.inr (.inr (.inr (fun _ => none))))))]) → va_S A H0 H1 locs →
      W p l e R s m args below meth c H1 locs (cells + 1) (slots + N') Q (F0 m (pc + 3) ls (.ref q :: rest))) : W p l e R s m args below meth c H locs cells slots Q (F0 m pc ls (.int n :: rest)) := by
  subst hN
  refine W.anewA hx hb hown hclink hover rfl hdg rfl hn hbytes hcells hslots fun cA kA comp f1 f2 f3 f4 => ?_
  generalize hH1 : H.push ({ cls := cA, slots := Array.replicate n.toNatClampNeg .null, vm := .none } : Cell) = H1
  have z1 : H1.size = H.size + 1 := by rw [← hH1, Array.size_push]
  have e1 : H1[H.size]? = some (arrV cA n.toNatClampNeg (fun _ => .null)) := by rw [← hH1, Array.getElem?_push_size, ← arrV_new]
  have o1 : ∀ q : Nat, q < H.size → H1[q]? = H[q]? := fun q hq => by rw [← hH1, Array.getElem?_push, if_neg (Nat.ne_of_lt hq)]
  have hAr : ArrOfT s cA (.array t) := fun N z => ⟨(fun k h => by cases h), kA, f2, comp, f3⟩
  have hk : ∀ (k : Nat) (x : Nat × va_E), ws[k]? = some x → H1[x.1]? = H[x.1]? := fun k x hx => o1 x.1 ((hP k x hx).lt)
  refine kk H.size cA H1 ⟨hK.1, fun k x hx => ?_⟩ ((hP.kept hk).app (fun k x hx => ?_)) (hD.push hP rfl (hA _ hS.1)) ⟨Nat.le_trans hS.1 (by omega), fun x h1 h2 => (o1 x (Nat.lt_of_lt_of_le h1 hS.1)).trans (hS.2.1 x h1 h2), hS.2.2⟩
  · by_cases hl : k < tys.length
    · rw [List.getElem?_append_left hl] at hx
      exact hK.2 k x hx
    · rw [List.getElem?_append_right (by omega)] at hx
      have hz : k - tys.length < 1 := (List.getElem?_eq_some_iff.mp hx).1
      rw [show k - tys.length = 0 by omega] at hx
      cases hx
      exact ⟨hAr, f1⟩
  · have hz : k < 1 := (List.getElem?_eq_some_iff.mp hx).1
    rw [show k = 0 by omega] at hx
    cases hx
    exact e1
theorem P_defs_ok {ρ : List Nat} : ∀ {fs : List Value}, (∀ j, j < fs.length → P_v [] (fs.getD j .null) (fs.getD j .null)) → P_vs ρ fs fs
  | [], _ => trivial
  | v :: fs, h => by
    refine ⟨(h 0 (by simp)).mono (fun i q hq => by simp at hq), P_defs_ok fun j hj => ?_⟩
    have := h (j + 1) (by simpa using hj)
    simpa using this
set_option maxHeartbeats 4000000 in
theorem P_new_ok (hC : P_Cx Tb own ini cc nL p s m args meth c) (hW : P_Wd cl aty nro stat D A s H locs ro ws tys h.1) (hcl : P_clok cl Z Tb) (hat : P_atok cl aty) {i : Instr} (hi : (∃ idx, i = .new idx) ∨ (∃ t, i = .newarray t) ∨ ∃ idx, i = .anewarray idx) (hok : P_iok cl aty Z Tb stat own ini i r1 r2) (hdg : decode cc pc = .ok (i, P_len i)) (hst : P_vs (P_rho ro ws) st st') (hh : P_hp Z nro i r1 r2 st h = some (st1, h1)) (hrc : cells + h1.2.1 ≤ R.cells + h.2.1) (hrs : slots + h1.2.2 ≤ R.slots + h.2.2)
    (k : ∀ (H1 : Heap) (ws1 : va_W) (tys1 : List (ClassId × FieldType)) (ws' : List Value) (cells1 slots1 : Nat), P_sub (P_rho ro ws) (P_rho ro ws1) → P_Wd cl aty nro stat D A s H1 locs ro ws1 tys1 h1.1 → cells1 + h.2.1 = cells + h1.2.1 → slots1 + h.2.2 = slots + h1.2.2 → P_vs (P_rho ro ws1) st1 ws' → W p l e R s m args below meth c H1 locs cells1 slots1 Q (F0 m (pc + P_len i) ls ws')) : W p l e R s m args below meth c H locs cells slots Q (F0 m pc ls st') := by
  obtain ⟨hx, hb, -, hown, hts, -, -⟩ := hC
  obtain ⟨a0, a1, a2, a3, -, a4, -, -⟩ := hat
  rcases hi with ⟨idx, rfl⟩ | ⟨t, rfl⟩ | ⟨idx, rfl⟩
  · simp only [P_hp] at hh
    split at hh
    · next hlt =>
      cases hh
      obtain ⟨C, T, N, g1, g2, g3, g4⟩ := hok hlt
      obtain ⟨c1, c2, c3, c4, c5⟩ := hcl _ C T N g1
      simp only [P_add] at hrc hrs
      refine va_new (D := D) (cl := cl) (fs := Z.1 r2) hx hb hts c1 (Z.2.2 r2) c2 hown (hts _ g2) (hts _ g3) (hts _ g4) hW.2.1 hW.1 hW.2.2.1 hW.2.2.2.1 hW.2.2.2.2.1 g1 (fun j hj => (c5 j hj).1) (by omega) (by rw [← c4]; omega) hdg (fun q H1 hP hD hS => ?_)
      have hW1 := hW.push (tys1 := []) (c := .inr (r2, Z.1 r2)) (by rw [List.append_nil]; exact hW.2.1) hP hD hS ⟨_, rfl, P_defs_ok fun j hj => (c5 j (by rw [← c4]; exact hj)).2⟩
      exact k H1 _ _ _ _ _ (P_sub_push ro ws _) hW1 (by simp only [P_add]; omega) (by simp only [P_add]; omega) ⟨hW.new_v q _, hst.mono (P_sub_push ro ws _)⟩
    · cases hh
  · simp only [P_hp] at hh
    split at hh
    · next n r =>
      split at hh
      · next hlt =>
        simp only [P_new] at hh
        split at hh
        · cases hh
        · next hn =>
          cases hh
          obtain ⟨w0, ws0, rfl, h0, h0'⟩ := P_vs_cons hst
          cases h0
          obtain ⟨g1, g2⟩ := hok
          simp only [P_add] at hrc hrs
          have hn0 : ¬ n < 0 := fun q => hn (Or.inl q)
          have hn1 : n.toNatClampNeg ≤ 65536 := Nat.le_of_not_lt fun q => hn (Or.inr q)
          have kk : ∀ (g : (Nat → Int32) ⊕ (Nat → Int64) ⊕ (Nat → UInt32) ⊕ (Nat → UInt64) ⊕ (Nat → Option Nat)), (∀ cA : ClassId, P_c aty (tys ++ [(cA, aty r2)]) (P_rho ro ws) (P_row r2 n.toNatClampNeg) (.inl (cA, n.toNatClampNeg, g))) → ∀ (q : Nat) (cA : ClassId) (H1 : Heap), va_K D cl (tys ++ [(cA, aty r2)]) s → va_P D cl (ws ++ [(q, .inl (cA, n.toNatClampNeg, g))]) H1 → va_D A (ws ++ [(q, .inl (cA, n.toNatClampNeg, g))]) → va_S A s.heap H1 locs → W p l e R s m args below meth c H1 locs (cells + 1) (slots + n.toNatClampNeg) Q (F0 m (pc + 2) ls (.ref q :: ws0)) := by
            intro g hg q cA H1 hK hP hD hS
            have hW1 := hW.push (c := P_row r2 n.toNatClampNeg) hK hP hD hS (hg cA)
            exact k H1 _ _ _ _ _ (P_sub_push ro ws _) hW1 (by simp only [P_add]; omega) (by simp only [P_add]; omega) ⟨hW.new_v q _, h0'.mono (P_sub_push ro ws _)⟩
          have hcb : componentBytes (aty r2) ≤ 8 := by
            rcases (by omega : r2 = 0 ∨ r2 = 1 ∨ r2 = 2 ∨ r2 = 3) with e | e | e | e <;> rw [e] <;> first | (rw [a0]; decide) | (rw [a1]; decide) | (rw [a2]; decide) | (rw [a3]; decide)
          have hby : n.toNatClampNeg * componentBytes (aty r2) ≤ 536870912 := Nat.le_trans (Nat.mul_le_mul hn1 hcb) (by decide)
          rcases (by omega : r2 = 0 ∨ r2 = 1 ∨ r2 = 2 ∨ r2 = 3) with e | e | e | e
          · subst e
            exact va_newa (atype := t) (D := D) (cl := cl) (a0 := (n.toNatClampNeg, .inl (fun _ => 0))) hx hb (by rw [g1]; exact hts _ g2) g1 hW.2.1 hW.1 hW.2.2.1 hW.2.2.2.1 hW.2.2.2.2.1 (fun cA => by rw [a0]; rfl) hn0 rfl hby (by omega) (by omega) hdg (fun q cA H1 => kk _ (fun cA => ⟨cA, tys.length, _, by simp, rfl, rfl⟩) q cA H1)
          · subst e
            exact va_newa (atype := t) (D := D) (cl := cl) (a0 := (n.toNatClampNeg, .inr (.inl (fun _ => 0)))) hx hb (by rw [g1]; exact hts _ g2) g1 hW.2.1 hW.1 hW.2.2.1 hW.2.2.2.1 hW.2.2.2.2.1 (fun cA => by rw [a1]; rfl) hn0 rfl hby (by omega) (by omega) hdg (fun q cA H1 => kk _ (fun cA => ⟨cA, tys.length, _, by simp, rfl, rfl⟩) q cA H1)
          · subst e
            exact va_newa (atype := t) (D := D) (cl := cl) (a0 := (n.toNatClampNeg, .inr (.inr (.inr (.inl (fun _ => 0)))))) hx hb (by rw [g1]; exact hts _ g2) g1 hW.2.1 hW.1 hW.2.2.1 hW.2.2.2.1 hW.2.2.2.2.1 (fun cA => by rw [a2]; rfl) hn0 rfl hby (by omega) (by omega) hdg (fun q cA H1 => kk _ (fun cA => ⟨cA, tys.length, _, by simp, rfl, rfl⟩) q cA H1)
          · subst e
            exact va_newa (atype := t) (D := D) (cl := cl) (a0 := (n.toNatClampNeg, .inl (fun _ => 0))) hx hb (by rw [g1]; exact hts _ g2) g1 hW.2.1 hW.1 hW.2.2.1 hW.2.2.2.1 hW.2.2.2.2.1 (fun cA => by rw [a3]; rfl) hn0 rfl hby (by omega) (by omega) hdg (fun q cA H1 => kk _ (fun cA => ⟨cA, tys.length, _, by simp, rfl, rfl⟩) q cA H1)
      · cases hh
    · cases hh
  · simp only [P_hp] at hh
    split at hh
    · next n r =>
      split at hh
      · next hlt =>
        simp only [P_new] at hh
        split at hh
        · cases hh
        · next hn =>
          cases hh
          obtain ⟨w0, ws0, rfl, h0, h0'⟩ := P_vs_cons hst
          cases h0
          simp only [P_add] at hrc hrs
          have hn0 : ¬ n < 0 := fun q => hn (Or.inl q)
          have hn1 : n.toNatClampNeg ≤ 65536 := Nat.le_of_not_lt fun q => hn (Or.inr q)
          have hby : n.toNatClampNeg * 4 ≤ 536870912 := Nat.le_trans (Nat.mul_le_mul_right 4 hn1) (by decide)
          have hrow : P_row r2 n.toNatClampNeg = .inl (r2, n.toNatClampNeg, .inr (.inr (.inr (.inr (fun _ => none))))) := by
            obtain ⟨j, rfl⟩ : ∃ j, r2 = j + 4 := ⟨r2 - 4, by omega⟩
            rfl
          have kk : ∀ (q : Nat) (cA : ClassId) (H1 : Heap), va_K D cl (tys ++ [(cA, aty r2)]) s → va_P D cl (ws ++ [(q, .inl (cA, n.toNatClampNeg, .inr (.inr (.inr (.inr (fun _ => none))))))]) H1 → va_D A (ws ++ [(q, .inl (cA, n.toNatClampNeg, .inr (.inr (.inr (.inr (fun _ => none))))))]) → va_S A s.heap H1 locs → W p l e R s m args below meth c H1 locs (cells + 1) (slots + n.toNatClampNeg) Q (F0 m (pc + 3) ls (.ref q :: ws0)) := by
            intro q cA H1 hK hP hD hS
            have hW1 := hW.push (c := P_row r2 n.toNatClampNeg) hK hP hD hS (by rw [hrow]; exact ⟨cA, tys.length, _, by simp, rfl, _, rfl, fun j => Or.inl ⟨rfl, rfl⟩⟩)
            exact k H1 _ _ _ _ _ (P_sub_push ro ws _) hW1 (by simp only [P_add]; omega) (by simp only [P_add]; omega) ⟨hW.new_v q _, h0'.mono (P_sub_push ro ws _)⟩
          rcases hok with ⟨C, g1, g2, g3⟩ | ⟨t, g1, g2, g3⟩
          · exact va_newq (D := D) (cl := cl) hx hb hown (hts _ g2) (va_AO.of (hts _ g3)) hW.2.1 hW.1 hW.2.2.1 hW.2.2.2.1 hW.2.2.2.2.1 hn0 rfl hby (by omega) (by omega) hdg (fun q cA H1 hK => kk q cA H1 (by rw [g1]; exact hK))
          · exact P_newr (D := D) (cl := cl) hx hb hown (hts _ g2) (hts _ g3) hW.2.1 hW.1 hW.2.2.1 hW.2.2.2.1 hW.2.2.2.2.1 hn0 rfl hby (by omega) (by omega) hdg (fun q cA H1 hK => kk q cA H1 (by rw [g1]; exact hK))
      · cases hh
    · cases hh
end NW
