/-! THE TIE, 6: rows -/
section AR
variable {p : Program} {l : Launch} {e : Env} {R : Room} {s : State} {m : MethodId} {args : Array Value} {below : List Frame} {meth : Method} {c : Code} {H : Heap} {locs : List Loc} {cells slots : Nat} {Q : State → Prop} {cc : ByteArray} {pc nL : Nat} {ls : Array Slot} {rest : List Value} {L L1 st st1 st' : List Value}
variable {cl : List vw_C} {aty : Nat → FieldType} {nro : Nat} {stat : P_T} {D : va_G} {A : Nat → Prop} {ro : List Nat} {ws : va_W} {tys : List (ClassId × FieldType)} {h h1 : P_H} {Z : P_Z} {Tb : List Jvm.Cond} {own : String} {ini : Bool} {r1 : Int} {r2 : Nat}
theorem P_bind_some {α β : Type} {o : Option α} {f : α → Option β} {b : β} (h : o.bind f = some b) : ∃ a, o = some a ∧ f a = some b := by
  cases o with
  | none => cases h
  | some a => exact ⟨a, rfl, h⟩
theorem P_aald (hx : p.tables.exec = Jvm.exec) (hb : c.code = cc) (hK : va_K D cl tys s) (hP : va_P D cl ws H) (q0 t0 : Nat) {a : Nat} {cA : ClassId} {ty : FieldType} {n : Nat} {f : Nat → Option Nat} (ha : ws[q0]? = some (a, .inl (cA, n, .inr (.inr (.inr (.inr f)))))) (ht : tys[t0]? = some (cA, ty)) (hty : ty.isReference = true) {i : Int32} (hin : vp_in i n) (hdg : decode cc pc = .ok (.aaload, 1))
    (kk : W p l e R s m args below meth c H locs cells slots Q (F0 m (pc + 1) ls (va_rf (f i.toNatClampNeg) :: rest))) : W p l e R s m args below meth c H locs cells slots Q (F0 m pc ls (.int i :: .ref a :: rest)) := by
  have hlt : i.toNatClampNeg < n := Nat.not_le.mp fun q => hin (Or.inr q)
  exact W.aald (v := va_rf (f i.toNatClampNeg)) (ty := ty) hx hb (hP q0 _ ha) ((hK.2 t0 _ ht).1 n (fun j => va_rf (f j))) hty (fun q => by cases q) (by show ¬ (i < 0 ∨ (arrV _ _ _).slots.size ≤ _); rw [arrV_size]; exact hin) (by show (arrV _ _ _).slots[_]? = _; rw [arrV_read _ _ hlt]) rfl rfl hdg kk
set_option maxHeartbeats 4000000 in
/-- the rows' reads -/
theorem P_ald_ok (hC : P_Cx Tb own ini cc nL p s m args meth c) (hW : P_Wd cl aty nro stat D A s H locs ro ws tys h.1) (hat : P_atok cl aty) {i : Instr} (hi : i = .iaload ∨ i = .baload ∨ i = .laload ∨ i = .daload ∨ i = .aaload) (hdg : decode cc pc = .ok (i, 1)) (hst : P_vs (P_rho ro ws) st st') (hh : P_hp Z nro i r1 r2 st h = some (st1, h1))
    (k : ∀ ws' : List Value, P_vs (P_rho ro ws) st1 ws' → h1 = h → W p l e R s m args below meth c H locs cells slots Q (F0 m (pc + 1) ls ws')) : W p l e R s m args below meth c H locs cells slots Q (F0 m pc ls st') := by
  obtain ⟨hx, hb, -, hown, hts, -, -⟩ := hC
  obtain ⟨a0, a1, a2, a3, -, a4, -, -⟩ := hat
  rcases hi with rfl | rfl | rfl | rfl | rfl
  · simp only [P_hp] at hh
    split at hh
    · next j a r =>
      split at hh
      · next n f hc =>
        obtain ⟨kx, hk, hh⟩ := P_bind_some hh
        cases hh
        obtain ⟨hin, rfl⟩ := P_ix_ok hk
        obtain ⟨w, ws2, rfl, h2, h3⟩ := P_vs_cons hst
        obtain ⟨w2, ws3, rfl, h4, h5⟩ := P_vs_cons h3
        cases h2
        by_cases ha : nro ≤ a
        · obtain ⟨q, e1, rfl, h6, cA, t0, g, g1, rfl, g3⟩ := hW.at ha h4 hc
          cases g3
          exact va_iald (D := D) (cl := cl) hx hb hW.2.1 hW.1 _ t0 h6 (by rw [g1, a0]) hin hdg (k _ ⟨rfl, h5⟩ rfl)
        · obtain ⟨q, n', f', rfl, g1, g2⟩ := hW.row (by omega) h4
          cases g1.symm.trans hc
          exact va_ti hx hb g2 hW.2.2.2.1 hin rfl hdg (k _ ⟨rfl, h5⟩ rfl)
      · cases hh
    · cases hh
  · simp only [P_hp] at hh
    split at hh
    · next j a r =>
      split at hh
      · next n f hc =>
        split at hh
        · next ha =>
          obtain ⟨kx, hk, hh⟩ := P_bind_some hh
          cases hh
          obtain ⟨hin, rfl⟩ := P_ix_ok hk
          obtain ⟨w, ws2, rfl, h2, h3⟩ := P_vs_cons hst
          obtain ⟨w2, ws3, rfl, h4, h5⟩ := P_vs_cons h3
          cases h2
          obtain ⟨q, e1, rfl, h6, cA, t0, g, g1, rfl, g3⟩ := hW.at ha h4 hc
          cases g3
          exact va_zald (D := D) (cl := cl) hx hb hW.2.1 hW.1 _ t0 h6 (by rw [g1, a3]) hin hdg (k _ ⟨rfl, h5⟩ rfl)
        · cases hh
      · cases hh
    · cases hh
  · simp only [P_hp] at hh
    split at hh
    · next j a r =>
      split at hh
      · next n f hc =>
        split at hh
        · next ha =>
          obtain ⟨kx, hk, hh⟩ := P_bind_some hh
          cases hh
          obtain ⟨hin, rfl⟩ := P_ix_ok hk
          obtain ⟨w, ws2, rfl, h2, h3⟩ := P_vs_cons hst
          obtain ⟨w2, ws3, rfl, h4, h5⟩ := P_vs_cons h3
          cases h2
          obtain ⟨q, e1, rfl, h6, cA, t0, g, g1, rfl, g3⟩ := hW.at ha h4 hc
          cases g3
          exact va_lald (D := D) (cl := cl) hx hb hW.2.1 hW.1 _ t0 h6 (by rw [g1, a1]) hin hdg (k _ ⟨rfl, h5⟩ rfl)
        · cases hh
      · cases hh
    · cases hh
  · simp only [P_hp] at hh
    split at hh
    · next j a r =>
      split at hh
      · next n f hc =>
        split at hh
        · next ha =>
          obtain ⟨kx, hk, hh⟩ := P_bind_some hh
          cases hh
          obtain ⟨hin, rfl⟩ := P_ix_ok hk
          obtain ⟨w, ws2, rfl, h2, h3⟩ := P_vs_cons hst
          obtain ⟨w2, ws3, rfl, h4, h5⟩ := P_vs_cons h3
          cases h2
          obtain ⟨q, e1, rfl, h6, cA, t0, g, g1, rfl, g3⟩ := hW.at ha h4 hc
          cases g3
          exact va_dald (D := D) (cl := cl) hx hb hW.2.1 hW.1 _ t0 h6 (by rw [g1, a2]) hin hdg (k _ ⟨rfl, h5⟩ rfl)
        · cases hh
      · cases hh
    · cases hh
  · simp only [P_hp] at hh
    split at hh
    · next j a r =>
      split at hh
      · next ty n f hc =>
        split at hh
        · next ha =>
          obtain ⟨kx, hk, hh⟩ := P_bind_some hh
          cases hh
          obtain ⟨hin, rfl⟩ := P_ix_ok hk
          obtain ⟨w, ws2, rfl, h2, h3⟩ := P_vs_cons hst
          obtain ⟨w2, ws3, rfl, h4, h5⟩ := P_vs_cons h3
          cases h2
          obtain ⟨q, e1, rfl, h6, cA, t0, g, g1, rfl, g', rfl, g4⟩ := hW.at ha.1 h4 hc
          have hty : (aty ty).isReference = true := by
            rcases a4 ty ha.2 with ⟨C, hq⟩ | ⟨t, hq⟩ <;> rw [hq] <;> rfl
          refine P_aald (D := D) (cl := cl) hx hb hW.2.1 hW.1 _ t0 h6 g1 hty hin hdg (k _ ⟨?_, h5⟩ rfl)
          rcases g4 j.toNatClampNeg with ⟨b1, b2⟩ | ⟨i, q2, b1, b2, b3⟩
          · rw [b1, b2]
            rfl
          · rw [b1, b2]
            exact ⟨q2, b3, rfl⟩
        · cases hh
      · cases hh
    · cases hh
set_option maxHeartbeats 4000000 in
theorem P_alen_ok (hC : P_Cx Tb own ini cc nL p s m args meth c) (hW : P_Wd cl aty nro stat D A s H locs ro ws tys h.1) (hdg : decode cc pc = .ok (.arraylength, 1)) (hst : P_vs (P_rho ro ws) st st') (hh : P_hp Z nro .arraylength r1 r2 st h = some (st1, h1))
    (k : ∀ ws' : List Value, P_vs (P_rho ro ws) st1 ws' → h1 = h → W p l e R s m args below meth c H locs cells slots Q (F0 m (pc + 1) ls ws')) : W p l e R s m args below meth c H locs cells slots Q (F0 m pc ls st') := by
  obtain ⟨hx, hb, -, hown, hts, -, -⟩ := hC
  simp only [P_hp] at hh
  split at hh
  · next a r =>
    split at hh
    · next ty n f hc =>
      split at hh
      · next hcond =>
        cases hh
        obtain ⟨w2, ws3, rfl, h4, h5⟩ := P_vs_cons hst
        by_cases ha : nro ≤ a
        · obtain ⟨q, e1, rfl, h6, cA, t0, g, g1, rfl, g3⟩ := hW.at ha h4 hc
          exact va_alen (D := D) (cl := cl) hx hb hW.2.1 hW.1 _ t0 h6 g1 rfl hdg (k _ ⟨rfl, h5⟩ rfl)
        · obtain ⟨q, n', f', rfl, g1, g2⟩ := hW.row (by omega) h4
          cases g1.symm.trans hc
          exact va_tlen hx hb g2 hW.2.2.2.1 rfl hdg (k _ ⟨rfl, h5⟩ rfl)
      · cases hh
    · cases hh
  · cases hh
set_option maxHeartbeats 4000000 in
theorem P_gets_ok (hC : P_Cx Tb own ini cc nL p s m args meth c) (hW : P_Wd cl aty nro stat D A s H locs ro ws tys h.1) {idx : Nat} (hok : P_iok cl aty Z Tb stat own ini (.getstatic idx) r1 r2) (hdg : decode cc pc = .ok (.getstatic idx, 3)) (hst : P_vs (P_rho ro ws) st st') (hh : P_hp Z nro (.getstatic idx) r1 r2 st h = some (st1, h1))
    (k : ∀ ws' : List Value, P_vs (P_rho ro ws) st1 ws' → h1 = h → W p l e R s m args below meth c H locs cells slots Q (F0 m (pc + 3) ls ws')) : W p l e R s m args below meth c H locs cells slots Q (F0 m pc ls st') := by
  obtain ⟨hx, hb, -, hown, hts, -, -⟩ := hC
  cases hh
  obtain ⟨C, ref, n, d, g1, g2, g3⟩ := hok
  obtain ⟨q, b1, b2⟩ := hW.2.2.2.2.2.2.2.2.2 _ g1
  have hv : P_v (P_rho ro ws) (.ref r2) (.ref q) := by
    refine ⟨q, ?_, rfl⟩
    rw [P_rho, List.getElem?_append_left (List.getElem?_eq_some_iff.mp b1).1]
    exact b1
  rcases g2 with g2 | ⟨host, g2⟩
  · exact va_gets hx hb b2 hW.2.2.2.1 hown (hts _ g2) (P_hsame hts g3) hdg (k _ ⟨hv, hst⟩ rfl)
  · exact va_getsN hx hb b2 hW.2.2.2.1 hown (hts _ g2) (P_hsame hts g3) hdg (k _ ⟨hv, hst⟩ rfl)
end AR
