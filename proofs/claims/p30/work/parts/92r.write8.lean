/-! the law's own methods, written by wip/g1.py: 92r.write8 -/
/-- a query is written, in both worlds -/
def G_Wq (w : P_Lw) (σ : P_A) (g : P_Gl) (τ : P_A) (G : Nat) (T : Nat) (tt : Int → Nat) (rT : Int → Nat) (tr : Int → Int → Nat) (cT : Int → Nat) (VV : Int → Int → Int → Int) (L S nn : Nat) (sn : Int → Int) (I m : Nat) (gi ki ci : Int → Int) (B : Nat) (C : List A_cd) (ad : Int → Nat) (D K : Nat) (tk : List Int) (gp oi lg dr : Int) : Prop :=
  G_Wb w σ g τ G T tt rT tr cT VV L K tk dr ∧ P_gS g τ G S nn 3 sn ∧ P_gRw g τ G 6 8 I m gi ∧ (1 ≤ m ∧ m ≤ 3) ∧ (∀ j, 0 ≤ j → j < (m : Int) → G_iok nn sn cT (gi j) (ki j) (ci j)) ∧ P_gC g τ G B C ad ∧ C.length ≤ 5 ∧ (∀ x ∈ C, P_gok nn sn cT x ∧ A_cf x 3 = (nn : Int) - 1) ∧ τ G 8 = gp ∧ (gp = -1 ∨ P_gcol nn sn cT gp) ∧ τ G 9 = oi ∧ (-1 ≤ oi ∧ oi < (m : Int)) ∧ τ G 10 = lg ∧ (-1 ≤ lg ∧ lg ≤ 5) ∧ P_gO g τ G D nn (fun j => j) ∧ τ G 13 = 0 ∧ tk = 0 :: (A_its ki ci m 0 ++ 1 :: (A_sts sn nn 0 ++ (A_cts C 2 ++ (A_gtk gp ++ (A_otk oi ++ A_ltk (G_lm lg)))))) ∧ tk.length ≤ 40
theorem g_wrt {d : Nat} {w : P_Lw} {σ : P_A} {g : P_Gl} {τ : P_A} {N u : Nat} {Q : P_GQ} (hw : P_Cw w) {G : Nat} {T : Nat} {tt : Int → Nat} {rT : Int → Nat} {tr : Int → Int → Nat} {cT : Int → Nat} {VV : Int → Int → Int → Int} {L K : Nat} {tk : List Int} {dr : Int} (hb : G_Wb w σ g τ G T tt rT tr cT VV L K tk dr) (htk0 : tk.length ≤ 40) (hdr : 0 ≤ dr ∧ dr ≤ 800000) (q : ∀ σ' g' τ' N' u' S nn sn I m gi ki ci B C ad D K tk gp oi lg dr', G_Wq w σ' g' τ' G T tt rT tr cT VV L S nn sn I m gi ki ci B C ad D K tk gp oi lg dr' → G_tf σ σ' → u' ≤ u + 6000 → dr ≤ dr' → dr' ≤ dr + 200 → Q (.inl (some (P_z 1))) w σ' g' τ' N' u') : P_gw (d + 12) 192 0 [.ref G, P_un, P_un, P_un, P_un, P_un] [] w σ g τ N u Q := by
  refine wr_1 hw hb htk0 hdr (fun σ1 g1 τ1 N1 u1 S nn sn dr1 K1 tk1 hb hS ht1 hf1 a1 a2 a3 => ?_)
  refine wr_2 hw hb hS ht1 (by omega) (fun σ2 g2 τ2 N2 u2 I K2 tk2 dr2 ig k hb hS hIp ht2 hf2 hig hk b1 b2 b3 => ?_)
  have hn1 := hS.2.2.1
  refine wr_I hw hig (σ0 := σ1) (k + 1).toNat σ2 g2 τ2 N2 u2 I 0 (fun _ => 0) (fun _ => 0) (fun _ => 0) k dr2 K2 tk2 hb hS hIp (fun j a b => by omega) ht2 (by rw [ht2]; simp) hf2 (by omega) (by omega) (by omega) (fun σ3 g3 τ3 N3 u3 I3 gi ki ci K3 tk3 dr3 hb hS hIp hio ht3 hl3 hf3 c1 c2 c3 => ?_)
  obtain ⟨m, hm⟩ : ∃ m : Nat, m = 0 + (k + 1).toNat := ⟨_, rfl⟩
  rw [← hm] at hIp hio ht3 hl3
  refine wr_4 hw (σ0 := σ1) hig hb hS hIp ht3 (by omega) hf3 (by omega) (fun σ4 g4 τ4 N4 u4 K4 tk4 z hb hS hIp ht4 hf4 d1 => ?_)
  refine wr_5 hw (σ0 := σ1) hig hb hS hIp ht4 (by rw [ht4]; rw [ht3] at hl3; simp only [List.length_append, List.length_cons, List.length_nil, A_sts_len] at hl3 ⊢; omega) hf4 (by omega) (fun σ5 g5 τ5 N5 u5 B C ad K5 tk5 dr5 z1 z2 hb hS hIp hC hCl hCok ht5 hf5 hl5 e1 e2 e3 => ?_)
  refine wr_6a hw (σ0 := σ1) (X := []) hig hb hS hIp hC (by omega) (fun τ6 dr6 gp hb hS hIp hC h8 hgp e4 e5 => ?_)
  refine wr_6b hw (σ0 := σ1) (X := []) hig hb hS hIp hC (by omega) h8 (by omega) (fun τ7 dr7 oi hb hS hIp hC h8 h9 hoi e6 e7 => ?_)
  refine wr_6c hw (σ0 := σ1) (X := []) hig hb hS hIp hC h8 h9 (by omega) (fun τ8 dr8 lg hb hS hIp hC h8 h9 h10 hlg e8 e9 => ?_)
  have hgp2 : gp = -1 ∨ 100 ≤ gp ∧ gp ≤ 199 := hgp.imp id (fun h => (P_gcol_v h).1)
  refine wr_6d hw (σ0 := σ1) hb hS hIp hC h8 h9 h10 hgp2 (by omega) hlg ht5 (by omega) hf5 (fun σ9 g9 τ9 N9 u9 D K9 tk9 hb hS hIp hC h8 h9 h10 hO h13 ht9 hf9 hl9 f1 => ?_)
  refine q σ9 g9 τ9 N9 u9 S nn sn I3 m gi ki ci B C ad D K9 tk9 gp oi lg dr8 ⟨hb, hS, hIp, by omega, hio, hC, hCl, hCok, h8, hgp, h9, by omega, h10, hlg, hO, h13, ?_, hl9⟩ (G_tf_tr hf1 hf9) (by omega) (by omega) (by omega)
  rw [ht9]
  simp [List.append_assoc]
theorem G_nSI {nn : Nat} {sn : Int → Int} {cT : Int → Nat} {c : Int} (h : P_gcol nn sn cT c) : A_cok (nn : Int) (G_cl sn cT) c := ⟨h.1.1, h.1.2.1, h.1.2.2.1, h.2⟩
/-- what is read is what was written -/
theorem G_QT {w : P_Lw} {σ : P_A} {g : P_Gl} {τ : P_A} {G : Nat} {T : Nat} {tt : Int → Nat} {rT : Int → Nat} {tr : Int → Int → Nat} {cT : Int → Nat} {VV : Int → Int → Int → Int} {L S nn : Nat} {sn : Int → Int} {I m : Nat} {gi ki ci : Int → Int} {B : Nat} {C : List A_cd} {ad : Int → Nat} {D K : Nat} {tk : List Int} {gp oi lg dr : Int} (h : G_Wq w σ g τ G T tt rT tr cT VV L S nn sn I m gi ki ci B C ad D K tk gp oi lg dr) : ∃ vr : Int → Int → Int, A_QT w σ (nn : Int) (G_tb sn) (P_grw sn rT) vr (G_cl sn cT) (G_V sn VV) C (m : Int) ki ci gp oi (G_lm lg) (m - 1) nn 3 sn (tk.length : Int) ∧ ∀ c, P_gcol nn sn cT c → A_vt vr c = A_vt (P_gvr sn rT VV) c := by
  obtain ⟨hb, hS, hIp, hm, hio, hC, hCl, hCok, h8, hgp, h9, hoi, h10, hlg, hO, h13, htk, hl⟩ := h
  obtain ⟨hT, hL, hK, hct, hTK, h0, hs1, hdr2⟩ := hb
  have hnn := hS.2.2.1
  have hsn : ∀ s, 0 ≤ s → s < (nn : Int) → 0 ≤ sn s ∧ sn s < ((3 : Nat) : Int) := fun s a b => (hS.2.2.2 s a b).2
  have hm1 : m - 1 + 1 = m := by omega
  refine ⟨fun s c => σ (G_tb sn s + 2) c.toNat, ⟨⟨by omega, by omega⟩, ⟨rfl, by omega⟩, fun j a b => ⟨(hio j a b).2.2.1, fun q => G_nSI ((hio j a b).2.2.2 q)⟩, fun s a b => ?_, fun s a b => ?_, hCl, fun x hx => ?_, hgp.imp id (fun q => G_nSI q), by omega, ?_, hct.1, by omega, hTK.1, ⟨?_, by omega⟩, ?_⟩, fun c hc => ?_⟩
  · have hs := hsn s a b
    obtain ⟨⟨a1, a2⟩, ⟨a3, a4⟩, ⟨a5, a6⟩, a7, a8, a9, a10⟩ := G_ct_i hct (sn s) hs.1 hs.2
    exact ⟨⟨⟨hs.1, hs.2⟩, by unfold G_tb; omega, a1⟩, a2, a5, by unfold P_grw; omega, fun c _ _ => ⟨rfl, a10 c.toNat⟩⟩
  · have hs := hsn s a b
    obtain ⟨⟨a1, a2⟩, ⟨a3, a4⟩, ⟨a5, a6⟩, a7, a8, a9, a10⟩ := G_ct_i hct (sn s) hs.1 hs.2
    have h1 := (hT.2.2.2 (sn s) hs.1 hs.2).1.2.2.2.1
    exact ⟨⟨a3, by unfold G_cl; omega, by unfold G_cl; omega⟩, fun c r p1 p2 p3 p4 => a7 c r p1 p2 p3 p4⟩
  · have hx1 := (hCok x hx).1
    have hk := (G_oks (fun y hy => (hCok y hy).1)).2 x hx
    exact ⟨⟨(P_gcol_v hx1.1).1.2, hx1.2.1⟩, hk.1, hk.2⟩
  · unfold G_lm
    split
    · exact Or.inl rfl
    · exact Or.inr (by omega)
  · rw [hm1, ← htk]
  · rw [hm1, ← htk]
    intro j hj
    rw [Int.zero_add, Int.toNat_natCast]
    exact hTK.2 j hj
  · obtain ⟨q1, q2, q3, q4, q5, q6⟩ := P_gcol_v hc
    have hs := hsn _ q2.1 q2.2
    obtain ⟨⟨a1, a2⟩, ⟨a3, a4⟩, ⟨a5, a6⟩, a7, a8, a9, a10⟩ := G_ct_i hct _ hs.1 hs.2
    unfold A_vt P_gvr
    rw [q5, q6]
    exact a8 (c % 10) q3.1 q4
/-- written and read: what stands between steps -/
theorem G_J_read {w : P_Lw} {σ σ' : P_A} {g : P_Gl} {τ : P_A} {G : Nat} {T : Nat} {tt : Int → Nat} {rT : Int → Nat} {tr : Int → Int → Nat} {cT : Int → Nat} {VV : Int → Int → Int → Int} {L S nn : Nat} {sn : Int → Int} {I m : Nat} {gi ki ci : Int → Int} {B : Nat} {C : List A_cd} {ad : Int → Nat} {D K : Nat} {tk : List Int} {gp oi lg dr : Int} (h : G_Wq w σ g τ G T tt rT tr cT VV L S nn sn I m gi ki ci B C ad D K tk gp oi lg dr) {vr : Int → Int → Int} (hvr : ∀ c, P_gcol nn sn cT c → A_vt vr c = A_vt (P_gvr sn rT VV) c) (hB : A_B w σ' (nn : Int) (G_tb sn) (P_grw sn rT) vr (G_cl sn cT) (G_V sn VV) (C.map (fun x => A_lvl x ((nn : Int) - 1))) (fun j => j) (m : Int) ki ci gp oi (G_lm lg) 0) (hf : ∀ a b, ¬ (6 ≤ a ∧ a ≤ 9) → ¬ (a = 29 ∧ 5 ≤ b) → ¬ (a = 13 ∧ 4 ≤ b) → ¬ (15 ≤ a ∧ a < 29) → a ≠ 44 → ¬ (a = 31 ∧ b = 16) → σ' a b = σ a b) (h16 : σ' 31 16 = 0) : G_J w σ' g τ G dr := by
  obtain ⟨hb, hS, hIp, hm, hio, hC, hCl, hCok, h8, hgp, h9, hoi, h10, hlg, hO, h13, htk, hl⟩ := h
  obtain ⟨hT, hL, hK, hct, hTK, h0, hs1, hdr2⟩ := hb
  have hnn := hS.2.2.1
  have hCC : C.map (fun x => A_lvl x ((nn : Int) - 1)) = C := by
    refine (List.map_congr_left (fun x hx => ?_)).trans (List.map_id C)
    rw [← (hCok x hx).2]
    rfl
  rw [hCC] at hB
  refine ⟨T, tt, rT, tr, cT, VV, S, nn, sn, D, fun j => j, B, C, ad, I, m, gi, vr, ki, ci, gp, oi, G_lm lg, 0, hT, hS, hO, hC, ⟨hIp.1, hIp.2.1, hm, fun j a b => ⟨hIp.2.2 j a b, (hio j a b).1⟩⟩, fun x hx => (hCok x hx).1, fun x hx => ?_, G_tab_cg (fun a b q => hf a b (by omega) (by omega) (by omega) (by omega) (by omega) (by omega)) hct, hB, hvr, fun j a b => (hio j a b).2.1, ⟨h0, hs1, hdr2, h8, h9, ?_, h13⟩, ?_, Or.inl h16⟩
  · have hlw := G_lw_lt (od := fun j => j) hnn (hCok x hx).1 hO.2.2.2
    have h3 := (hCok x hx).2
    omega
  · unfold G_lm
    split
    · next e => exact Or.inl ⟨h10.trans e, rfl⟩
    · exact Or.inr ⟨h10, by omega⟩
  · rw [hf _ _ (by omega) (by omega) (by omega) (by omega) (by omega) (by omega), hTK.1]
    omega