/-! the law's own methods, written by wip/g1.py: 95b.addr -/
theorem G_cps {f g : Nat → Int} {n : Int} {c : Nat} (h : (c : Int) < n) : P_cps f g 0 0 n c = f c := by
  unfold P_cps
  rw [if_pos (by simp only [Int.toNat_zero]; omega)]
  congr 1
  simp
/-- a row of Grove's more -/
theorem G_T_add {g g' : P_Gl} {τ τ' : P_A} {G N x : Nat} {T nt : Nat} {tt : Int → Nat} {rT : Int → Nat} {tr : Int → Int → Nat} {cT : Int → Nat} {VV : Int → Int → Int → Int} (hT : P_gT g τ G T nt tt rT tr cT VV) (hlt : ∀ a r sh, g a = some (r, sh) → 2 ≤ a ∧ a < N) {t a b e : Int} (ht : 0 ≤ t ∧ t < (nt : Int)) (hr : rT t ≤ 6) (hx : P_xt N g τ g' τ') (hN : g' N = some (3, .inr (.inr (200, rT t + 1)))) (h1 : ∀ j : Nat, (j : Int) < (rT t : Int) → τ' N j = τ (tt t) j) (h2 : τ' N (rT t : Int).toNat = ((x : Nat) : Int)) (hX : g x = some (4, .inr (.inl (cT t)))) (hv : ∀ c : Nat, c < cT t → τ x c = if c = 0 then a else if c = 1 then b else e) (hab : (-1 ≤ a ∧ a ≤ 3) ∧ (-1 ≤ b ∧ b ≤ 3) ∧ (-1 ≤ e ∧ e ≤ 3)) : P_gT g' (P_u2 τ' T t.toNat (N : Int)) G T nt (fun s => if s = t then N else tt s) (G_ar rT t) (fun s j => if s = t ∧ j = (rT t : Int) then x else tr s j) cT (G_aV VV rT t a b e) := by
  obtain ⟨⟨b1, b2⟩, b3, b4, b5⟩ := hT
  have hG := (hlt _ _ _ b1).2
  have hTl := (hlt _ _ _ b3).2
  have hGT : G ≠ T := fun e => by rw [← e] at b3; cases b3.symm.trans b1
  have xl := (hlt _ _ _ hX).2
  have xT : x ≠ T := fun e => by rw [e] at hX; cases hX.symm.trans b3
  refine ⟨⟨(hx G hG).1.trans b1, (P_u2_ne (by omega)).trans (((hx G hG).2 _).trans b2)⟩, (hx T hTl).1.trans b3, b4, fun s x2 y => ?_⟩
  obtain ⟨⟨k1, k2, k3⟩, k4⟩ := b5 s x2 y
  have ktl := (hlt _ _ _ k2).2
  by_cases es : s = t
  · subst es
    simp only [if_true, G_ar_at]
    refine ⟨⟨P_u2_at, hN, by omega, k3.2⟩, fun j a2 b2 => ?_⟩
    by_cases q : j = (rT s : Int)
    · subst q
      rw [if_pos ⟨trivial, rfl⟩]
      refine ⟨⟨(P_u2_ne (by omega)).trans h2, (hx _ xl).1.trans hX⟩, fun c c0 c1 => ?_⟩
      rw [G_aV_at, if_pos rfl, P_u2_ne (by omega), (hx _ xl).2, hv c.toNat (by omega)]
      have : (c = 0 ∧ c.toNat = 0) ∨ (c = 1 ∧ c.toNat = 1) ∨ (c = 2 ∧ c.toNat = 2) := by omega
      rcases this with ⟨e1, e2⟩ | ⟨e1, e2⟩ | ⟨e1, e2⟩ <;> rw [e1] <;> simp <;> omega
    · rw [if_neg (fun z => q z.2)]
      obtain ⟨⟨m1, m2⟩, m3⟩ := k4 j a2 (by omega)
      have ml := (hlt _ _ _ m2).2
      have mT : tr s j ≠ T := fun e => by rw [e] at m2; cases m2.symm.trans b3
      refine ⟨⟨(P_u2_ne (by omega)).trans ((h1 j.toNat (by omega)).trans m1), (hx _ ml).1.trans m2⟩, fun c c0 c1 => ?_⟩
      rw [G_aV_at, if_neg q]
      exact ⟨(P_u2_ne (by omega)).trans (((hx _ ml).2 _).trans (m3 c c0 c1).1), (m3 c c0 c1).2⟩
  · simp only [if_neg es, G_ar_ne es]
    have hjj : ∀ j, ¬ (s = t ∧ j = (rT t : Int)) := fun j z => es z.1
    refine ⟨⟨(P_u2_ne (by omega)).trans (((hx T hTl).2 _).trans k1), (hx _ ktl).1.trans k2, k3⟩, fun j a2 b2 => ?_⟩
    obtain ⟨⟨m1, m2⟩, m3⟩ := k4 j a2 b2
    have ml := (hlt _ _ _ m2).2
    have mT : tr s j ≠ T := fun e => by rw [e] at m2; cases m2.symm.trans b3
    have kT : tt s ≠ T := fun e => by rw [e] at k2; cases k2.symm.trans b3
    simp only [if_neg (hjj j), G_aV_ne es]
    exact ⟨⟨(P_u2_ne (by omega)).trans (((hx _ ktl).2 _).trans m1), (hx _ ml).1.trans m2⟩, fun c c0 c1 => ⟨(P_u2_ne (by omega)).trans (((hx _ ml).2 _).trans (m3 c c0 c1).1), (m3 c c0 c1).2⟩⟩
theorem g_ar2 {d : Nat} {w : P_Lw} {σ : P_A} {g : P_Gl} {τ : P_A} {N u : Nat} {Q : P_GQ} {G r0 k0 : Nat} {T nt : Nat} {tt : Int → Nat} {rT : Int → Nat} {tr : Int → Int → Nat} {cT : Int → Nat} {VV : Int → Int → Int → Int} (hT : P_gT g τ G T nt tt rT tr cT VV) {t : Int} (ht : 0 ≤ t ∧ t < (nt : Int)) {x : Int} (hxr : x = (rT t : Int)) (q : Q (.inl (some (P_z 1))) w σ g τ N u) : P_gw (d + 7) 187 102 [.ref G, P_z t, .ref r0, .ref k0] [P_z x] w σ g τ N u Q := by
  have hn2 := hT.2.2.1
  refine P_gw_op (L' := [.ref G, P_z t, .ref r0, .ref k0]) (st' := [.ref G, P_z x]) P_i187_102 rfl (show P_gw _ _ 103 [.ref G, P_z t, .ref r0, .ref k0] [.ref G, P_z x] _ _ _ _ _ _ _ from ?_)
  refine P_gw_getR (P_i187_103) (hT.1.1) rfl rfl (hT.1.2) (show P_gw _ _ 106 [.ref G, P_z t, .ref r0, .ref k0] [.ref T, P_z x] _ _ _ _ _ _ _ from ?_)
  refine P_gw_op (L' := [.ref G, P_z t, .ref r0, .ref k0]) (st' := [P_z t, .ref T, P_z x]) P_i187_106 rfl (show P_gw _ _ 107 [.ref G, P_z t, .ref r0, .ref k0] [P_z t, .ref T, P_z x] _ _ _ _ _ _ _ from ?_)
  have hg1 := (hT.2.2.2 t (by omega) (by omega)).1.2.2
  refine P_gw_rld (b := (tt t)) P_i187_107 (hT.2.1) (by decide) (by omega) (by omega) (by omega) ((hT.2.2.2 t (by omega) (by omega)).1.1) (show P_gw _ _ 108 [.ref G, P_z t, .ref r0, .ref k0] [.ref (tt t), P_z x] _ _ _ _ _ _ _ from ?_)
  refine P_gw_rlen P_i187_108 ((hT.2.2.2 t (by omega) (by omega)).1.2.1) (show P_gw _ _ 109 [.ref G, P_z t, .ref r0, .ref k0] [P_z ((rT t : Nat) : Int), P_z x] _ _ _ _ _ _ _ from ?_)
  refine P_gw_icf P_i187_109 ⟨by omega, by omega⟩ ⟨by omega, by omega⟩ (P_ci_nef (by omega)) (show P_gw _ _ 112 [.ref G, P_z t, .ref r0, .ref k0] [] _ _ _ _ _ _ _ from ?_)
  refine P_gw_op (L' := [.ref G, P_z t, .ref r0, .ref k0]) (st' := [P_z 1]) P_i187_112 rfl (show P_gw _ _ 113 [.ref G, P_z t, .ref r0, .ref k0] [P_z 1] _ _ _ _ _ _ _ from ?_)
  refine P_gw_goto P_i187_113 (show P_gw _ _ 117 [.ref G, P_z t, .ref r0, .ref k0] [P_z 1] _ _ _ _ _ _ _ from ?_)
  refine P_gw_end P_i187_117 rfl rfl (fun _ => rfl) rfl ?_
  exact q

theorem g_ar {d : Nat} {w : P_Lw} {σ : P_A} {g : P_Gl} {τ : P_A} {N u : Nat} {Q : P_GQ} (hw : P_Cw w) {G : Nat} {T : Nat} {tt : Int → Nat} {rT : Int → Nat} {tr : Int → Int → Nat} {cT : Int → Nat} {VV : Int → Int → Int → Int} {L K : Nat} {tk : List Int} {dr : Int} (hb : G_Wb w σ g τ G T tt rT tr cT VV L K tk dr) {t : Int} (ht : 0 ≤ t ∧ t < 3) (hdr : 0 ≤ dr ∧ dr ≤ 800000) (q : ∀ σ' g' τ' N' u' tt' rT' tr' VV' dr', G_Wb w σ' g' τ' G T tt' rT' tr' cT VV' L K tk dr' → u' ≤ u + 60 → dr ≤ dr' → dr' ≤ dr + 3 → Q (.inl (some (P_z 1))) w σ' g' τ' N' u') : P_gw (d + 7) 187 0 [.ref G, P_z t, P_un, P_un] [] w σ g τ N u Q := by
  refine P_gw_lts (fun hlt => ?_)
  obtain ⟨hT, hL, hK, hct, hTK, h0, hs1, hdr2⟩ := id hb
  have hlG := hlt _ _ _ hT.1.1
  have hr7 := (hT.2.2.2 t ht.1 ht.2).1.2.2.1
  have hGL : L ≠ G := fun e => by have h := hL.2.1; rw [e] at h; cases h.symm.trans hT.1.1
  have hGT : G ≠ T := fun e => by have h := hT.2.1; rw [← e] at h; cases h.symm.trans hT.1.1
  refine P_gw_op (L' := [.ref G, P_z t, P_un, P_un]) (st' := [.ref G]) P_i187_0 rfl (show P_gw _ _ 1 [.ref G, P_z t, P_un, P_un] [.ref G] _ _ _ _ _ _ _ from ?_)
  refine P_gw_getR (P_i187_1) (hT.1.1) rfl rfl (hT.1.2) (show P_gw _ _ 4 [.ref G, P_z t, P_un, P_un] [.ref T] _ _ _ _ _ _ _ from ?_)
  refine P_gw_op (L' := [.ref G, P_z t, P_un, P_un]) (st' := [P_z t, .ref T]) P_i187_4 rfl (show P_gw _ _ 5 [.ref G, P_z t, P_un, P_un] [P_z t, .ref T] _ _ _ _ _ _ _ from ?_)
  have hg1 := (hT.2.2.2 t (by omega) (by omega)).1.2.2
  refine P_gw_rld (b := (tt t)) P_i187_5 (hT.2.1) (by decide) (by omega) (by omega) (by omega) ((hT.2.2.2 t (by omega) (by omega)).1.1) (show P_gw _ _ 6 [.ref G, P_z t, P_un, P_un] [.ref (tt t)] _ _ _ _ _ _ _ from ?_)
  refine P_gw_rlen P_i187_6 ((hT.2.2.2 t (by omega) (by omega)).1.2.1) (show P_gw _ _ 7 [.ref G, P_z t, P_un, P_un] [P_z ((rT t : Nat) : Int)] _ _ _ _ _ _ _ from ?_)
  refine P_gw_op (L' := [.ref G, P_z t, P_un, P_un]) (st' := [P_z 7, P_z ((rT t : Nat) : Int)]) P_i187_7 (P_o_bi (by decide)) (show P_gw _ _ 9 [.ref G, P_z t, P_un, P_un] [P_z 7, P_z ((rT t : Nat) : Int)] _ _ _ _ _ _ _ from ?_)
  by_cases hc2 : ((rT t : Nat) : Int) = 7
  · refine P_gw_icf P_i187_9 ⟨by omega, by omega⟩ ⟨by decide, by decide⟩ (P_ci_nef (by omega)) (show P_gw _ _ 12 [.ref G, P_z t, P_un, P_un] [] _ _ _ _ _ _ _ from ?_)
    refine P_gw_op (L' := [.ref G, P_z t, P_un, P_un]) (st' := [P_z 1]) P_i187_12 rfl (show P_gw _ _ 13 [.ref G, P_z t, P_un, P_un] [P_z 1] _ _ _ _ _ _ _ from ?_)
    refine P_gw_end P_i187_13 rfl rfl (fun _ => rfl) rfl ?_
    exact q _ _ _ _ _ _ _ _ _ _ hb (by omega) (by omega) (by omega)
  · refine P_gw_ict P_i187_9 ⟨by omega, by omega⟩ ⟨by decide, by decide⟩ (P_ci_net (by omega)) (show P_gw _ _ 14 [.ref G, P_z t, P_un, P_un] [] _ _ _ _ _ _ _ from ?_)
    refine P_gw_op (L' := [.ref G, P_z t, P_un, P_un]) (st' := [P_z 3]) P_i187_14 rfl (show P_gw _ _ 15 [.ref G, P_z t, P_un, P_un] [P_z 3] _ _ _ _ _ _ _ from ?_)
    refine P_gw_newi (12) P_i187_15 (by omega) (by omega) (show P_gw _ _ 17 [.ref G, P_z t, P_un, P_un] [.ref N] _ _ _ _ _ _ _ from ?_)
    refine P_gw_op (L' := [.ref G, P_z t, P_un, P_un]) (st' := [.ref N, .ref N]) P_i187_17 rfl (show P_gw _ _ 18 [.ref G, P_z t, P_un, P_un] [.ref N, .ref N] _ _ _ _ _ _ _ from ?_)
    refine P_gw_op (L' := [.ref G, P_z t, P_un, P_un]) (st' := [P_z 0, .ref N, .ref N]) P_i187_18 rfl (show P_gw _ _ 19 [.ref G, P_z t, P_un, P_un] [P_z 0, .ref N, .ref N] _ _ _ _ _ _ _ from ?_)
    refine P_gw_op (L' := [.ref G, P_z t, P_un, P_un]) (st' := [.ref G, P_z 0, .ref N, .ref N]) P_i187_19 rfl (show P_gw _ _ 20 [.ref G, P_z t, P_un, P_un] [.ref G, P_z 0, .ref N, .ref N] _ _ _ _ _ _ _ from ?_)
    refine P_gw_op (L' := [.ref G, P_z t, P_un, P_un]) (st' := [P_z 4, .ref G, P_z 0, .ref N, .ref N]) P_i187_20 rfl (show P_gw _ _ 21 [.ref G, P_z t, P_un, P_un] [P_z 4, .ref G, P_z 0, .ref N, .ref N] _ _ _ _ _ _ _ from ?_)
    refine P_gw_call P_i187_21 rfl rfl (fun _ => rfl) rfl rfl rfl rfl (y2 := 182) (as := [.ref G, P_z 4]) (r0 := [P_z 0, .ref N, .ref N]) (P_ginv_v ((P_gN_ne (by omega)).trans (hT.1.1)) rfl rfl) (Nat.le_of_ble_eq_true rfl) (by decide) rfl (Nat.le_of_ble_eq_true rfl) (s_draw ((P_gN_ne (by omega)).trans (hT.1.1)) ((P_tN_ne (by omega)).trans (hs1)) ((P_tN_ne (by omega)).trans (hdr2)) (by omega) (by omega) (fun v3 hv3a hv3b => ?_))
    show P_gw _ _ 24 [.ref G, P_z t, P_un, P_un] [P_z v3, P_z 0, .ref N, .ref N] _ _ _ _ _ _ _
    refine P_gw_ast P_i187_24 (P_gN_at) (by omega) (by omega) (by omega) (show P_gw _ _ 25 [.ref G, P_z t, P_un, P_un] [.ref N] _ _ _ _ _ _ _ from ?_)
    refine P_gw_op (L' := [.ref G, P_z t, P_un, P_un]) (st' := [.ref N, .ref N]) P_i187_25 rfl (show P_gw _ _ 26 [.ref G, P_z t, P_un, P_un] [.ref N, .ref N] _ _ _ _ _ _ _ from ?_)
    refine P_gw_op (L' := [.ref G, P_z t, P_un, P_un]) (st' := [P_z 1, .ref N, .ref N]) P_i187_26 rfl (show P_gw _ _ 27 [.ref G, P_z t, P_un, P_un] [P_z 1, .ref N, .ref N] _ _ _ _ _ _ _ from ?_)
    refine P_gw_op (L' := [.ref G, P_z t, P_un, P_un]) (st' := [.ref G, P_z 1, .ref N, .ref N]) P_i187_27 rfl (show P_gw _ _ 28 [.ref G, P_z t, P_un, P_un] [.ref G, P_z 1, .ref N, .ref N] _ _ _ _ _ _ _ from ?_)
    refine P_gw_op (L' := [.ref G, P_z t, P_un, P_un]) (st' := [P_z 5, .ref G, P_z 1, .ref N, .ref N]) P_i187_28 rfl (show P_gw _ _ 29 [.ref G, P_z t, P_un, P_un] [P_z 5, .ref G, P_z 1, .ref N, .ref N] _ _ _ _ _ _ _ from ?_)
    refine P_gw_call P_i187_29 rfl rfl (fun _ => rfl) rfl rfl rfl rfl (y2 := 182) (as := [.ref G, P_z 5]) (r0 := [P_z 1, .ref N, .ref N]) (P_ginv_v ((P_gN_ne (by omega)).trans (hT.1.1)) rfl rfl) (Nat.le_of_ble_eq_true rfl) (by decide) rfl (Nat.le_of_ble_eq_true rfl) (s_draw ((P_gN_ne (by omega)).trans (hT.1.1)) ((P_u2_ne (by omega)).trans ((P_u2_ne (by omega)).trans ((P_tN_ne (by omega)).trans (hs1)))) ((P_u2_ne (by omega)).trans (P_u2_at)) (by omega) (by omega) (fun v4 hv4a hv4b => ?_))
    show P_gw _ _ 32 [.ref G, P_z t, P_un, P_un] [P_z v4, P_z 1, .ref N, .ref N] _ _ _ _ _ _ _
    refine P_gw_op (L' := [.ref G, P_z t, P_un, P_un]) (st' := [P_z 1, P_z v4, P_z 1, .ref N, .ref N]) P_i187_32 rfl (show P_gw _ _ 33 [.ref G, P_z t, P_un, P_un] [P_z 1, P_z v4, P_z 1, .ref N, .ref N] _ _ _ _ _ _ _ from ?_)
    refine P_gw_op (L' := [.ref G, P_z t, P_un, P_un]) (st' := [P_z (v4 - 1), P_z 1, .ref N, .ref N]) P_i187_33 P_o_isub (show P_gw _ _ 34 [.ref G, P_z t, P_un, P_un] [P_z (v4 - 1), P_z 1, .ref N, .ref N] _ _ _ _ _ _ _ from ?_)
    refine P_gw_ast P_i187_34 (P_gN_at) (by omega) (by omega) (by omega) (show P_gw _ _ 35 [.ref G, P_z t, P_un, P_un] [.ref N] _ _ _ _ _ _ _ from ?_)
    refine P_gw_op (L' := [.ref G, P_z t, P_un, P_un]) (st' := [.ref N, .ref N]) P_i187_35 rfl (show P_gw _ _ 36 [.ref G, P_z t, P_un, P_un] [.ref N, .ref N] _ _ _ _ _ _ _ from ?_)
    refine P_gw_op (L' := [.ref G, P_z t, P_un, P_un]) (st' := [P_z 2, .ref N, .ref N]) P_i187_36 rfl (show P_gw _ _ 37 [.ref G, P_z t, P_un, P_un] [P_z 2, .ref N, .ref N] _ _ _ _ _ _ _ from ?_)
    refine P_gw_op (L' := [.ref G, P_z t, P_un, P_un]) (st' := [.ref G, P_z 2, .ref N, .ref N]) P_i187_37 rfl (show P_gw _ _ 38 [.ref G, P_z t, P_un, P_un] [.ref G, P_z 2, .ref N, .ref N] _ _ _ _ _ _ _ from ?_)
    refine P_gw_op (L' := [.ref G, P_z t, P_un, P_un]) (st' := [P_z 3, .ref G, P_z 2, .ref N, .ref N]) P_i187_38 rfl (show P_gw _ _ 39 [.ref G, P_z t, P_un, P_un] [P_z 3, .ref G, P_z 2, .ref N, .ref N] _ _ _ _ _ _ _ from ?_)
    refine P_gw_call P_i187_39 rfl rfl (fun _ => rfl) rfl rfl rfl rfl (y2 := 182) (as := [.ref G, P_z 3]) (r0 := [P_z 2, .ref N, .ref N]) (P_ginv_v ((P_gN_ne (by omega)).trans (hT.1.1)) rfl rfl) (Nat.le_of_ble_eq_true rfl) (by decide) rfl (Nat.le_of_ble_eq_true rfl) (s_draw ((P_gN_ne (by omega)).trans (hT.1.1)) ((P_u2_ne (by omega)).trans ((P_u2_ne (by omega)).trans ((P_u2_ne (by omega)).trans ((P_u2_ne (by omega)).trans ((P_tN_ne (by omega)).trans (hs1)))))) ((P_u2_ne (by omega)).trans (P_u2_at)) (by omega) (by omega) (fun v5 hv5a hv5b => ?_))
    show P_gw _ _ 42 [.ref G, P_z t, P_un, P_un] [P_z v5, P_z 2, .ref N, .ref N] _ _ _ _ _ _ _
    refine P_gw_ast P_i187_42 (P_gN_at) (by omega) (by omega) (by omega) (show P_gw _ _ 43 [.ref G, P_z t, P_un, P_un] [.ref N] _ _ _ _ _ _ _ from ?_)
    refine P_gw_op (L' := [.ref G, P_z t, .ref N, P_un]) (st' := []) P_i187_43 rfl (show P_gw _ _ 44 [.ref G, P_z t, .ref N, P_un] [] _ _ _ _ _ _ _ from ?_)
    have hf : G_fr G_0 G_2 g τ (P_gN g N 12 (.inr (.inl (3 : Int).toNat))) (P_u2 (P_u2 (P_u2 (P_u2 (P_u2 (P_u2 (P_tN τ N (fun _ => 0)) G 2 (dr + 1)) N 0 v3) G 2 ((dr + 1) + 1)) N 1 (v4 - 1)) G 2 (((dr + 1) + 1) + 1)) N 2 v5) := fun x r sh e => ⟨((P_gN_ne (by have := (hlt x r sh e).2; omega))).trans e, fun j a b => (P_u2_ne (by have := (hlt x r sh e).2; omega)).trans ((P_u2_ne (fun q => by obtain ⟨rfl, rfl⟩ := q; cases hT.1.1.symm.trans e; exact a rfl rfl)).trans ((P_u2_ne (by have := (hlt x r sh e).2; omega)).trans ((P_u2_ne (fun q => by obtain ⟨rfl, rfl⟩ := q; cases hT.1.1.symm.trans e; exact a rfl rfl)).trans ((P_u2_ne (by have := (hlt x r sh e).2; omega)).trans ((P_u2_ne (fun q => by obtain ⟨rfl, rfl⟩ := q; cases hT.1.1.symm.trans e; exact a rfl rfl)).trans ((P_tN_ne (by have := (hlt x r sh e).2; omega))))))))⟩
    obtain ⟨dr3, hdq⟩ : ∃ x, x = (((dr + 1) + 1) + 1) := ⟨_, rfl⟩
    obtain ⟨a, hqa⟩ : ∃ x, x = v3 := ⟨_, rfl⟩
    obtain ⟨b, hqb⟩ : ∃ x, x = (v4 - 1) := ⟨_, rfl⟩
    obtain ⟨e, hqe⟩ : ∃ x, x = v5 := ⟨_, rfl⟩
    have za : (P_u2 (P_u2 (P_u2 (P_u2 (P_u2 (P_u2 (P_tN τ N (fun _ => 0)) G 2 (dr + 1)) N 0 v3) G 2 ((dr + 1) + 1)) N 1 (v4 - 1)) G 2 (((dr + 1) + 1) + 1)) N 2 v5) N 0 = a := ((P_u2_ne (by omega)).trans ((P_u2_ne (by omega)).trans ((P_u2_ne (by omega)).trans ((P_u2_ne (by omega)).trans (P_u2_at))))).trans hqa.symm
    have zb : (P_u2 (P_u2 (P_u2 (P_u2 (P_u2 (P_u2 (P_tN τ N (fun _ => 0)) G 2 (dr + 1)) N 0 v3) G 2 ((dr + 1) + 1)) N 1 (v4 - 1)) G 2 (((dr + 1) + 1) + 1)) N 2 v5) N 1 = b := ((P_u2_ne (by omega)).trans ((P_u2_ne (by omega)).trans (P_u2_at))).trans hqb.symm
    have ze : (P_u2 (P_u2 (P_u2 (P_u2 (P_u2 (P_u2 (P_tN τ N (fun _ => 0)) G 2 (dr + 1)) N 0 v3) G 2 ((dr + 1) + 1)) N 1 (v4 - 1)) G 2 (((dr + 1) + 1) + 1)) N 2 v5) N 2 = e := (P_u2_at).trans hqe.symm
    have hb2 := G_Wb_fr hf (fun _ h => h.elim) (fun j h => Or.inl h) (((P_u2_ne (by omega)).trans (P_u2_at)).trans hdq.symm) hb
    refine P_gw_rr (L := fun r0 => [.ref G, P_z t, .ref r0, P_un]) (st := fun r0 => []) (Pr := fun g' τ' N' u' r0 => (G_Wb w σ g' τ' G T tt rT tr cT VV L K tk dr3 ∧ (g' r0 = some (12, .inr (.inl 3)) ∧ τ' r0 0 = a ∧ τ' r0 1 = b ∧ τ' r0 2 = e)) ∧ u' ≤ u + 10) N ⟨⟨hb2, P_gN_at, za, zb, ze⟩, by omega⟩ (fun g τ N u r0 hre => ?_)
    obtain ⟨⟨hb, hr0, za, zb, ze⟩, hub⟩ := hre
    show P_gw _ _ 44 [.ref G, P_z t, .ref r0, P_un] [] _ _ _ _ _ _ _
    refine P_gw_lts (fun hlt => ?_)
    obtain ⟨hT, hL, hK, hct, hTK, h0, hs1, hdr2⟩ := id hb
    have hlG := hlt _ _ _ hT.1.1
    have hr0T : r0 ≠ T := fun e => by have h := hT.2.1; rw [← e] at h; cases h.symm.trans hr0
    have hr0G : r0 ≠ G := fun e => by have h := hT.1.1; rw [← e] at h; cases h.symm.trans hr0
    have hlr := (hlt _ _ _ hr0).2
    have hlT := (hlt _ _ _ hT.2.1).2
    refine P_gw_op (L' := [.ref G, P_z t, .ref r0, P_un]) (st' := [.ref G]) P_i187_44 rfl (show P_gw _ _ 45 [.ref G, P_z t, .ref r0, P_un] [.ref G] _ _ _ _ _ _ _ from ?_)
    refine P_gw_getR (P_i187_45) (hT.1.1) rfl rfl (hL.1.2) (show P_gw _ _ 48 [.ref G, P_z t, .ref r0, P_un] [.ref L] _ _ _ _ _ _ _ from ?_)
    refine P_gw_op (L' := [.ref G, P_z t, .ref r0, P_un]) (st' := [P_z t, .ref L]) P_i187_48 rfl (show P_gw _ _ 49 [.ref G, P_z t, .ref r0, P_un] [P_z t, .ref L] _ _ _ _ _ _ _ from ?_)
    have hg6 := (hL.2.2 t (by omega) (by omega)).2
    refine P_gw_ald P_i187_49 (hL.2.1) (by omega) (by omega) (by omega) ((hL.2.2 t (by omega) (by omega)).1) (show P_gw _ _ 50 [.ref G, P_z t, .ref r0, P_un] [P_z ((cT t : Nat) : Int)] _ _ _ _ _ _ _ from ?_)
    refine P_gw_newi (4) P_i187_50 (by omega) (by omega) (show P_gw _ _ 52 [.ref G, P_z t, .ref r0, P_un] [.ref N] _ _ _ _ _ _ _ from ?_)
    refine P_gw_op (L' := [.ref G, P_z t, .ref r0, .ref N]) (st' := []) P_i187_52 rfl (show P_gw _ _ 53 [.ref G, P_z t, .ref r0, .ref N] [] _ _ _ _ _ _ _ from ?_)
    refine P_gw_op (L' := [.ref G, P_z t, .ref r0, .ref N]) (st' := [.ref r0]) P_i187_53 rfl (show P_gw _ _ 54 [.ref G, P_z t, .ref r0, .ref N] [.ref r0] _ _ _ _ _ _ _ from ?_)
    refine P_gw_op (L' := [.ref G, P_z t, .ref r0, .ref N]) (st' := [P_z 0, .ref r0]) P_i187_54 rfl (show P_gw _ _ 55 [.ref G, P_z t, .ref r0, .ref N] [P_z 0, .ref r0] _ _ _ _ _ _ _ from ?_)
    refine P_gw_op (L' := [.ref G, P_z t, .ref r0, .ref N]) (st' := [.ref N, P_z 0, .ref r0]) P_i187_55 rfl (show P_gw _ _ 56 [.ref G, P_z t, .ref r0, .ref N] [.ref N, P_z 0, .ref r0] _ _ _ _ _ _ _ from ?_)
    refine P_gw_op (L' := [.ref G, P_z t, .ref r0, .ref N]) (st' := [P_z 0, .ref N, P_z 0, .ref r0]) P_i187_56 rfl (show P_gw _ _ 57 [.ref G, P_z t, .ref r0, .ref N] [P_z 0, .ref N, P_z 0, .ref r0] _ _ _ _ _ _ _ from ?_)
    refine P_gw_op (L' := [.ref G, P_z t, .ref r0, .ref N]) (st' := [.ref N, P_z 0, .ref N, P_z 0, .ref r0]) P_i187_57 rfl (show P_gw _ _ 58 [.ref G, P_z t, .ref r0, .ref N] [.ref N, P_z 0, .ref N, P_z 0, .ref r0] _ _ _ _ _ _ _ from ?_)
    refine P_gw_alen P_i187_58 (P_gN_at) (show P_gw _ _ 59 [.ref G, P_z t, .ref r0, .ref N] [P_z ((((cT t : Nat) : Int).toNat : Nat) : Int), P_z 0, .ref N, P_z 0, .ref r0] _ _ _ _ _ _ _ from ?_)
    refine P_gw_cpi P_i187_59 (P_gN_at) ((P_gN_ne (by omega)).trans (hr0)) (by omega) (by omega) (by omega) (by omega) (by omega) ⟨by omega, by omega⟩ (Nat.le_of_ble_eq_true rfl) (show P_gw _ _ 62 [.ref G, P_z t, .ref r0, .ref N] [] _ _ _ _ _ _ _ from ?_)
    have hf : ∀ (n : Nat) (s1 s2 : Nat → Int), G_fr G_0 G_0 g τ (P_gN g N 4 (.inr (.inl n))) (P_tN (P_tN τ N s1) N s2) := fun n s1 s2 => G_fr_xt hlt (fun x hx => ⟨P_gN_ne (by omega), fun j => (P_tN_ne (by omega)).trans (P_tN_ne (by omega))⟩)
    have hrc : ∀ c : Nat, c < cT t → τ r0 c = if c = 0 then a else if c = 1 then b else e := fun c hc => by
      have : c = 0 ∨ c = 1 ∨ c = 2 := by omega
      rcases this with rfl | rfl | rfl
      · exact za
      · exact zb
      · exact ze
    refine P_gw_rr (L := fun k0 => [.ref G, P_z t, .ref r0, .ref k0]) (st := fun k0 => []) (Pr := fun g' τ' N' u' k0 => (G_Wb w σ g' τ' G T tt rT tr cT VV L K tk dr3 ∧ (g' r0 = some (12, .inr (.inl 3)) ∧ τ' r0 0 = a ∧ τ' r0 1 = b ∧ τ' r0 2 = e) ∧ g' k0 = some (4, .inr (.inl (cT t))) ∧ ∀ c : Nat, c < cT t → τ' k0 c = if c = 0 then a else if c = 1 then b else e) ∧ u' ≤ u + 10) N ⟨⟨G_Wb_fr (hf (cT t) _ _) (fun _ h => h.elim) (fun j h => h.elim) (((hf (cT t) _ _ _ _ _ hT.1.1).2 2 (fun _ => id) id).trans hdr2) hb, ⟨(hf (cT t) (fun _ => 0) (fun _ => 0) _ _ _ hr0).1, ((hf (cT t) _ _ _ _ _ hr0).2 0 (fun _ => id) id).trans za, ((hf (cT t) _ _ _ _ _ hr0).2 1 (fun _ => id) id).trans zb, ((hf (cT t) _ _ _ _ _ hr0).2 2 (fun _ => id) id).trans ze⟩, P_gN_at, fun c hc => (P_tN_at.trans (G_cps (by omega))).trans ((P_tN_ne (by omega)).trans (hrc c hc))⟩, by omega⟩ (fun g τ N u k0 hre => ?_)
    obtain ⟨⟨hb, ⟨hr0, za, zb, ze⟩, hk0, hkv⟩, hub2⟩ := hre
    show P_gw _ _ 62 [.ref G, P_z t, .ref r0, .ref k0] [] _ _ _ _ _ _ _
    refine P_gw_lts (fun hlt => ?_)
    obtain ⟨hT, hL, hK, hct, hTK, h0, hs1, hdr2⟩ := id hb
    have hlG := hlt _ _ _ hT.1.1
    have hr0T : r0 ≠ T := fun e => by have h := hT.2.1; rw [← e] at h; cases h.symm.trans hr0
    have hlr := (hlt _ _ _ hr0).2
    have hlT := (hlt _ _ _ hT.2.1).2
    refine P_gw_op (L' := [.ref G, P_z t, .ref r0, .ref k0]) (st' := [.ref G]) P_i187_62 rfl (show P_gw _ _ 63 [.ref G, P_z t, .ref r0, .ref k0] [.ref G] _ _ _ _ _ _ _ from ?_)
    refine P_gw_getR (P_i187_63) (hT.1.1) rfl rfl (hT.1.2) (show P_gw _ _ 66 [.ref G, P_z t, .ref r0, .ref k0] [.ref T] _ _ _ _ _ _ _ from ?_)
    refine P_gw_op (L' := [.ref G, P_z t, .ref r0, .ref k0]) (st' := [P_z t, .ref T]) P_i187_66 rfl (show P_gw _ _ 67 [.ref G, P_z t, .ref r0, .ref k0] [P_z t, .ref T] _ _ _ _ _ _ _ from ?_)
    refine P_gw_op (L' := [.ref G, P_z t, .ref r0, .ref k0]) (st' := [.ref G, P_z t, .ref T]) P_i187_67 rfl (show P_gw _ _ 68 [.ref G, P_z t, .ref r0, .ref k0] [.ref G, P_z t, .ref T] _ _ _ _ _ _ _ from ?_)
    refine P_gw_getR (P_i187_68) (hT.1.1) rfl rfl (hT.1.2) (show P_gw _ _ 71 [.ref G, P_z t, .ref r0, .ref k0] [.ref T, P_z t, .ref T] _ _ _ _ _ _ _ from ?_)
    refine P_gw_op (L' := [.ref G, P_z t, .ref r0, .ref k0]) (st' := [P_z t, .ref T, P_z t, .ref T]) P_i187_71 rfl (show P_gw _ _ 72 [.ref G, P_z t, .ref r0, .ref k0] [P_z t, .ref T, P_z t, .ref T] _ _ _ _ _ _ _ from ?_)
    have hg7 := (hT.2.2.2 t (by omega) (by omega)).1.2.2
    refine P_gw_rld (b := (tt t)) P_i187_72 (hT.2.1) (by decide) (by omega) (by omega) (by omega) ((hT.2.2.2 t (by omega) (by omega)).1.1) (show P_gw _ _ 73 [.ref G, P_z t, .ref r0, .ref k0] [.ref (tt t), P_z t, .ref T] _ _ _ _ _ _ _ from ?_)
    refine P_gw_op (L' := [.ref G, P_z t, .ref r0, .ref k0]) (st' := [.ref G, .ref (tt t), P_z t, .ref T]) P_i187_73 rfl (show P_gw _ _ 74 [.ref G, P_z t, .ref r0, .ref k0] [.ref G, .ref (tt t), P_z t, .ref T] _ _ _ _ _ _ _ from ?_)
    refine P_gw_getR (P_i187_74) (hT.1.1) rfl rfl (hT.1.2) (show P_gw _ _ 77 [.ref G, P_z t, .ref r0, .ref k0] [.ref T, .ref (tt t), P_z t, .ref T] _ _ _ _ _ _ _ from ?_)
    refine P_gw_op (L' := [.ref G, P_z t, .ref r0, .ref k0]) (st' := [P_z t, .ref T, .ref (tt t), P_z t, .ref T]) P_i187_77 rfl (show P_gw _ _ 78 [.ref G, P_z t, .ref r0, .ref k0] [P_z t, .ref T, .ref (tt t), P_z t, .ref T] _ _ _ _ _ _ _ from ?_)
    have hg8 := (hT.2.2.2 t (by omega) (by omega)).1.2.2
    refine P_gw_rld (b := (tt t)) P_i187_78 (hT.2.1) (by decide) (by omega) (by omega) (by omega) ((hT.2.2.2 t (by omega) (by omega)).1.1) (show P_gw _ _ 79 [.ref G, P_z t, .ref r0, .ref k0] [.ref (tt t), .ref (tt t), P_z t, .ref T] _ _ _ _ _ _ _ from ?_)
    refine P_gw_rlen P_i187_79 ((hT.2.2.2 t (by omega) (by omega)).1.2.1) (show P_gw _ _ 80 [.ref G, P_z t, .ref r0, .ref k0] [P_z ((rT t : Nat) : Int), .ref (tt t), P_z t, .ref T] _ _ _ _ _ _ _ from ?_)
    refine P_gw_op (L' := [.ref G, P_z t, .ref r0, .ref k0]) (st' := [.ref k0, P_z ((rT t : Nat) : Int), .ref (tt t), P_z t, .ref T]) P_i187_80 rfl (show P_gw _ _ 81 [.ref G, P_z t, .ref r0, .ref k0] [.ref k0, P_z ((rT t : Nat) : Int), .ref (tt t), P_z t, .ref T] _ _ _ _ _ _ _ from ?_)
    refine P_gw_call P_i187_81 rfl rfl (fun _ => rfl) rfl rfl rfl rfl (y2 := 184) (as := [.ref (tt t), P_z ((rT t : Nat) : Int), .ref k0]) (r0 := [P_z t, .ref T]) (fun _ _ => rfl) (Nat.le_of_ble_eq_true rfl) (by decide) rfl (Nat.le_of_ble_eq_true rfl) (s_with 3 (hT.2.2.2 t (by omega) (by omega)).1.2.1 (G_T_rw hT hlt (by omega) (by omega)) (by omega) hk0 (by omega) (fun g' τ' u' hx hN h1 h2 h3 hu => ?_))
    have hT3 := G_T_add (a := a) (b := b) (e := e) hT hlt (t := t) (by omega) (by omega) hx hN h1 h2 hk0 hkv ⟨by omega, by omega, by omega⟩
    have hf3 : G_fr G_R2 G_0 g τ g' (P_u2 τ' T t.toNat (N : Int)) := G_fr_tr (G_fr_xt hlt hx) (G_fr_r ((hx T (by omega)).1.trans hT.2.1) rfl)
    show P_gw _ _ 84 [.ref G, P_z t, .ref r0, .ref k0] [.ref N, P_z t, .ref T] _ _ _ _ _ _ _
    refine P_gw_rst P_i187_84 (((hx T (by omega)).1).trans (hT.2.1)) (hN) rfl (by decide) (by omega) (by omega) (by omega) (show P_gw _ _ 85 [.ref G, P_z t, .ref r0, .ref k0] [] _ _ _ _ _ _ _ from ?_)
    refine P_gw_op (L' := [.ref G, P_z t, .ref r0, .ref k0]) (st' := [.ref G]) P_i187_85 rfl (show P_gw _ _ 86 [.ref G, P_z t, .ref r0, .ref k0] [.ref G] _ _ _ _ _ _ _ from ?_)
    refine P_gw_getR (P_i187_86) (((hx G (by omega)).1).trans (hT.1.1)) rfl rfl ((P_u2_ne (by omega)).trans (((hx G (by omega)).2 0).trans (h0))) (show P_gw _ _ 89 [.ref G, P_z t, .ref r0, .ref k0] [.ref (w.2.2 0)] _ _ _ _ _ _ _ from ?_)
    refine P_gw_op (L' := [.ref G, P_z t, .ref r0, .ref k0]) (st' := [P_z t, .ref (w.2.2 0)]) P_i187_89 rfl (show P_gw _ _ 90 [.ref G, P_z t, .ref r0, .ref k0] [P_z t, .ref (w.2.2 0)] _ _ _ _ _ _ _ from ?_)
    refine P_gw_op (L' := [.ref G, P_z t, .ref r0, .ref k0]) (st' := [.ref r0, P_z t, .ref (w.2.2 0)]) P_i187_90 rfl (show P_gw _ _ 91 [.ref G, P_z t, .ref r0, .ref k0] [.ref r0, P_z t, .ref (w.2.2 0)] _ _ _ _ _ _ _ from ?_)
    refine P_gw_op (L' := [.ref G, P_z t, .ref r0, .ref k0]) (st' := [P_z 0, .ref r0, P_z t, .ref (w.2.2 0)]) P_i187_91 rfl (show P_gw _ _ 92 [.ref G, P_z t, .ref r0, .ref k0] [P_z 0, .ref r0, P_z t, .ref (w.2.2 0)] _ _ _ _ _ _ _ from ?_)
    refine P_gw_ald P_i187_92 (((hx r0 (by omega)).1).trans (hr0)) (by omega) (by omega) (by omega) ((P_u2_ne (by omega)).trans (((hx r0 (by omega)).2 0).trans (za))) (show P_gw _ _ 93 [.ref G, P_z t, .ref r0, .ref k0] [P_z a, P_z t, .ref (w.2.2 0)] _ _ _ _ _ _ _ from ?_)
    refine P_gw_op (L' := [.ref G, P_z t, .ref r0, .ref k0]) (st' := [.ref r0, P_z a, P_z t, .ref (w.2.2 0)]) P_i187_93 rfl (show P_gw _ _ 94 [.ref G, P_z t, .ref r0, .ref k0] [.ref r0, P_z a, P_z t, .ref (w.2.2 0)] _ _ _ _ _ _ _ from ?_)
    refine P_gw_op (L' := [.ref G, P_z t, .ref r0, .ref k0]) (st' := [P_z 1, .ref r0, P_z a, P_z t, .ref (w.2.2 0)]) P_i187_94 rfl (show P_gw _ _ 95 [.ref G, P_z t, .ref r0, .ref k0] [P_z 1, .ref r0, P_z a, P_z t, .ref (w.2.2 0)] _ _ _ _ _ _ _ from ?_)
    refine P_gw_ald P_i187_95 (((hx r0 (by omega)).1).trans (hr0)) (by omega) (by omega) (by omega) ((P_u2_ne (by omega)).trans (((hx r0 (by omega)).2 1).trans (zb))) (show P_gw _ _ 96 [.ref G, P_z t, .ref r0, .ref k0] [P_z b, P_z a, P_z t, .ref (w.2.2 0)] _ _ _ _ _ _ _ from ?_)
    refine P_gw_op (L' := [.ref G, P_z t, .ref r0, .ref k0]) (st' := [.ref r0, P_z b, P_z a, P_z t, .ref (w.2.2 0)]) P_i187_96 rfl (show P_gw _ _ 97 [.ref G, P_z t, .ref r0, .ref k0] [.ref r0, P_z b, P_z a, P_z t, .ref (w.2.2 0)] _ _ _ _ _ _ _ from ?_)
    refine P_gw_op (L' := [.ref G, P_z t, .ref r0, .ref k0]) (st' := [P_z 2, .ref r0, P_z b, P_z a, P_z t, .ref (w.2.2 0)]) P_i187_97 rfl (show P_gw _ _ 98 [.ref G, P_z t, .ref r0, .ref k0] [P_z 2, .ref r0, P_z b, P_z a, P_z t, .ref (w.2.2 0)] _ _ _ _ _ _ _ from ?_)
    refine P_gw_ald P_i187_98 (((hx r0 (by omega)).1).trans (hr0)) (by omega) (by omega) (by omega) ((P_u2_ne (by omega)).trans (((hx r0 (by omega)).2 2).trans (ze))) (show P_gw _ _ 99 [.ref G, P_z t, .ref r0, .ref k0] [P_z e, P_z b, P_z a, P_z t, .ref (w.2.2 0)] _ _ _ _ _ _ _ from ?_)
    refine P_gw_cls P_i187_99 rfl rfl (fun _ => rfl) rfl rfl rfl rfl (y2 := 139) (as := [.ref (w.2.2 0), P_z t, P_z a, P_z b, P_z e]) (r0 := []) (P_inv_v (hw.2.1 0 (by decide)) (hw.s rfl) rfl rfl) (Nat.le_of_ble_eq_true rfl) (by decide) rfl (Nat.le_of_ble_eq_true rfl) (G_s_row hw hct ⟨by omega, by omega⟩ (by omega) ⟨⟨by omega, by omega⟩, ⟨by omega, by omega⟩, by omega, by omega⟩ ?_)
    show P_gw _ _ 102 [.ref G, P_z t, .ref r0, .ref k0] [P_z (((rT t : Nat) : Int) + 1)] _ _ _ _ _ _ _
    refine g_ar2 (x := ((rT t : Nat) : Int) + 1) hT3 (by omega) (by rw [G_ar_at] <;> omega) ?_
    exact (q _ _ _ _ _ _ _ _ _ _ ⟨hT3, P_gL_fr hf3 ⟨by unfold G_R2; omega, by unfold G_R2; omega⟩ id hL, P_gK_fr hf3 (by unfold G_R2; omega) id hK, G_ct_row hct (by omega) (by omega) ⟨⟨by omega, by omega⟩, ⟨by omega, by omega⟩, by omega, by omega⟩, ⟨(G_as_ne (by omega) (by omega) ⟨by omega, by omega, by omega⟩).trans hTK.1, fun j hj => (G_as_ne (by omega) (by omega) ⟨by omega, by omega, by omega⟩).trans (hTK.2 j hj)⟩, ((hf3 _ _ _ hT.1.1).2 0 (fun _ => id) (by unfold G_R2; omega)).trans h0, ((hf3 _ _ _ hT.1.1).2 1 (fun _ => id) (by unfold G_R2; omega)).trans hs1, ((hf3 _ _ _ hT.1.1).2 2 (fun _ => id) (by unfold G_R2; omega)).trans hdr2⟩ (by omega) (by omega) (by omega))
