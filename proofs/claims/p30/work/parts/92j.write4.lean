/-! the law's own methods, written by wip/g1.py: 92j.write4 -/
theorem G_sts_sn {sn : Int → Int} : ∀ (n : Nat) (i : Int), A_sts sn (n + 1) i = A_sts sn n i ++ [20 + sn (i + (n : Int))]
  | 0, i => by simp [A_sts]
  | n + 1, i => by
    rw [A_sts, G_sts_sn n (i + 1)]
    simp only [A_sts, List.cons_append]
    rw [show i + 1 + (n : Int) = i + ((n + 1 : Nat) : Int) by omega]
theorem wr_T {d : Nat} {w : P_Lw} {Q : P_GQ} (hw : P_Cw w) {G T : Nat} {tt : Int → Nat} {rT : Int → Nat} {tr : Int → Int → Nat} {cT : Int → Nat} {VV : Int → Int → Int → Int} {L : Nat} {S nn : Nat} {sn : Int → Int} {I m : Nat} {gi : Int → Int} {σ0 : P_A} {ig : Int} {X : List Int} (hig : 0 ≤ ig ∧ ig ≤ 1) : ∀ (n : Nat) (σ : P_A) (g : P_Gl) (τ : P_A) (N : Nat) (u : Nat) (i : Int) (dr : Int) (K : Nat) (tk : List Int), (G_Wb w σ g τ G T tt rT tr cT VV L K tk dr) → (P_gS g τ G S nn 3 sn) → (P_gRw g τ G 6 8 I m gi) → (tk = X ++ A_sts sn i.toNat 0) → ((tk.length : Int) ≤ 8 + i) → (G_tf σ0 σ) → (0 ≤ i) → ((nn : Int) = i + (n : Nat)) → (0 ≤ dr ∧ dr ≤ 900000) → (∀ σ' g' τ' N' u' K' tk' z, G_Wb w σ' g' τ' G T tt rT tr cT VV L K' tk' dr → P_gS g' τ' G S nn 3 sn → P_gRw g' τ' G 6 8 I m gi → tk' = X ++ A_sts sn nn 0 → G_tf σ0 σ' → u' ≤ u + 60 * n → P_gw (d + 12) 192 277 [.ref G, P_z ig, .ref S, P_z ((nn : Nat) : Int), P_z z, P_un] [] w σ' g' τ' N' u' Q) → P_gw (d + 12) 192 245 [.ref G, P_z ig, .ref S, P_z ((nn : Nat) : Int), P_z i, P_un] [] w σ g τ N u Q := by
  intro n
  induction n with
  | zero =>
    intro σ g τ N u i dr K tk hv0 hv1 hv2 hv3 hv4 hv5 hv6 hv7 hv8 q
    have hb := hv0
    have hS := hv1
    have hIp := hv2
    have htk := hv3
    have hst := hv5
    have hn1 := hS.2.2.1
    refine P_gw_op (L' := [.ref G, P_z ig, .ref S, P_z ((nn : Nat) : Int), P_z i, P_un]) (st' := [P_z i]) P_i192_245 rfl (show P_gw _ _ 247 [.ref G, P_z ig, .ref S, P_z ((nn : Nat) : Int), P_z i, P_un] [P_z i] _ _ _ _ _ _ _ from ?_)
    refine P_gw_op (L' := [.ref G, P_z ig, .ref S, P_z ((nn : Nat) : Int), P_z i, P_un]) (st' := [P_z ((nn : Nat) : Int), P_z i]) P_i192_247 rfl (show P_gw _ _ 248 [.ref G, P_z ig, .ref S, P_z ((nn : Nat) : Int), P_z i, P_un] [P_z ((nn : Nat) : Int), P_z i] _ _ _ _ _ _ _ from ?_)
    refine P_gw_ict P_i192_248 ⟨by omega, by omega⟩ ⟨by omega, by omega⟩ (P_ci_get (by omega)) (show P_gw _ _ 277 [.ref G, P_z ig, .ref S, P_z ((nn : Nat) : Int), P_z i, P_un] [] _ _ _ _ _ _ _ from ?_)
    exact q σ g τ N u K tk _ hb hS hIp (by rw [htk, show i.toNat = nn by omega]) hst (by omega)
  | succ n ih =>
    intro σ g τ N u i dr K tk hv0 hv1 hv2 hv3 hv4 hv5 hv6 hv7 hv8 q
    have hb := hv0
    have hS := hv1
    have hIp := hv2
    have htk := hv3
    have hst := hv5
    refine P_gw_lts (fun hlt => ?_)
    obtain ⟨hT, hL, hK, hct, hTK, h0, hs1, hdr2⟩ := id hb
    have hlG := hlt _ _ _ hT.1.1
    have hn1 := hS.2.2.1
    refine P_gw_op (L' := [.ref G, P_z ig, .ref S, P_z ((nn : Nat) : Int), P_z i, P_un]) (st' := [P_z i]) P_i192_245 rfl (show P_gw _ _ 247 [.ref G, P_z ig, .ref S, P_z ((nn : Nat) : Int), P_z i, P_un] [P_z i] _ _ _ _ _ _ _ from ?_)
    refine P_gw_op (L' := [.ref G, P_z ig, .ref S, P_z ((nn : Nat) : Int), P_z i, P_un]) (st' := [P_z ((nn : Nat) : Int), P_z i]) P_i192_247 rfl (show P_gw _ _ 248 [.ref G, P_z ig, .ref S, P_z ((nn : Nat) : Int), P_z i, P_un] [P_z ((nn : Nat) : Int), P_z i] _ _ _ _ _ _ _ from ?_)
    refine P_gw_icf P_i192_248 ⟨by omega, by omega⟩ ⟨by omega, by omega⟩ (P_ci_gef (by omega)) (show P_gw _ _ 251 [.ref G, P_z ig, .ref S, P_z ((nn : Nat) : Int), P_z i, P_un] [] _ _ _ _ _ _ _ from ?_)
    refine P_gw_op (L' := [.ref G, P_z ig, .ref S, P_z ((nn : Nat) : Int), P_z i, P_un]) (st' := [.ref S]) P_i192_251 rfl (show P_gw _ _ 252 [.ref G, P_z ig, .ref S, P_z ((nn : Nat) : Int), P_z i, P_un] [.ref S] _ _ _ _ _ _ _ from ?_)
    refine P_gw_op (L' := [.ref G, P_z ig, .ref S, P_z ((nn : Nat) : Int), P_z i, P_un]) (st' := [P_z i, .ref S]) P_i192_252 rfl (show P_gw _ _ 254 [.ref G, P_z ig, .ref S, P_z ((nn : Nat) : Int), P_z i, P_un] [P_z i, .ref S] _ _ _ _ _ _ _ from ?_)
    have hg1 := (hS.2.2.2 i (by omega) (by omega)).2
    refine P_gw_ald P_i192_254 (hS.2.1) (by omega) (by omega) (by omega) ((hS.2.2.2 i (by omega) (by omega)).1) (show P_gw _ _ 255 [.ref G, P_z ig, .ref S, P_z ((nn : Nat) : Int), P_z i, P_un] [P_z (sn i)] _ _ _ _ _ _ _ from ?_)
    refine P_gw_op (L' := [.ref G, P_z ig, .ref S, P_z ((nn : Nat) : Int), P_z i, P_z (sn i)]) (st' := []) P_i192_255 rfl (show P_gw _ _ 257 [.ref G, P_z ig, .ref S, P_z ((nn : Nat) : Int), P_z i, P_z (sn i)] [] _ _ _ _ _ _ _ from ?_)
    refine P_gw_op (L' := [.ref G, P_z ig, .ref S, P_z ((nn : Nat) : Int), P_z i, P_z (sn i)]) (st' := [.ref G]) P_i192_257 rfl (show P_gw _ _ 258 [.ref G, P_z ig, .ref S, P_z ((nn : Nat) : Int), P_z i, P_z (sn i)] [.ref G] _ _ _ _ _ _ _ from ?_)
    refine P_gw_op (L' := [.ref G, P_z ig, .ref S, P_z ((nn : Nat) : Int), P_z i, P_z (sn i)]) (st' := [P_z 20, .ref G]) P_i192_258 (P_o_bi (by decide)) (show P_gw _ _ 260 [.ref G, P_z ig, .ref S, P_z ((nn : Nat) : Int), P_z i, P_z (sn i)] [P_z 20, .ref G] _ _ _ _ _ _ _ from ?_)
    refine P_gw_op (L' := [.ref G, P_z ig, .ref S, P_z ((nn : Nat) : Int), P_z i, P_z (sn i)]) (st' := [P_z (sn i), P_z 20, .ref G]) P_i192_260 rfl (show P_gw _ _ 262 [.ref G, P_z ig, .ref S, P_z ((nn : Nat) : Int), P_z i, P_z (sn i)] [P_z (sn i), P_z 20, .ref G] _ _ _ _ _ _ _ from ?_)
    refine P_gw_op (L' := [.ref G, P_z ig, .ref S, P_z ((nn : Nat) : Int), P_z i, P_z (sn i)]) (st' := [P_z (20 + (sn i)), .ref G]) P_i192_262 P_o_iadd (show P_gw _ _ 263 [.ref G, P_z ig, .ref S, P_z ((nn : Nat) : Int), P_z i, P_z (sn i)] [P_z (20 + (sn i)), .ref G] _ _ _ _ _ _ _ from ?_)
    have htl2 : tk.length < 40 := by omega
    refine P_gw_call P_i192_263 rfl rfl (fun _ => rfl) rfl rfl rfl rfl (y2 := 190) (as := [.ref G, P_z (20 + (sn i))]) (r0 := []) (P_ginv_v (hT.1.1) rfl rfl) (Nat.le_of_ble_eq_true rfl) (by decide) rfl (Nat.le_of_ble_eq_true rfl) (g_tok hw hb (t := (20 + (sn i))) htl2 (by omega) (fun σ g τ u hb hf hsf hub => ?_))
    have hS := P_gS_fr hf ⟨id, id⟩ (G_n5f (by omega)) hS
    have hIp := P_gRw_fr hf ⟨id, id⟩ (by omega) (G_n5f (by omega)) hIp
    obtain ⟨tk, htq⟩ : ∃ x, x = tk ++ [(20 + (sn i))] := ⟨_, rfl⟩
    rw [← htq] at hb
    have htl := congrArg List.length htq
    simp only [List.length_append, List.length_cons, List.length_nil] at htl
    rw [htk] at htq
    have htk := htq
    have hst := G_tf_tr hst hsf
    obtain ⟨K, hKq⟩ : ∃ x, x = N := ⟨_, rfl⟩
    rw [← hKq] at hb
    refine P_gw_re (Pr := fun g' τ' N' u' => g = g' ∧ τ = τ' ∧ u = u' ∧ N < N') ⟨rfl, rfl, rfl, by omega⟩ (fun g1 τ1 N u1 hre => ?_)
    obtain ⟨rfl, rfl, rfl, hNN⟩ := hre
    refine P_gw_lts (fun hlt => ?_)
    obtain ⟨hT, hL, hK, hct, hTK, h0, hs1, hdr2⟩ := id hb
    have hlG := hlt _ _ _ hT.1.1
    show P_gw _ _ 266 [.ref G, P_z ig, .ref S, P_z ((nn : Nat) : Int), P_z i, P_z (sn i)] [P_z 1] _ _ _ _ _ _ _
    refine P_gw_izt P_i192_266 ⟨by decide, by decide⟩ (P_ci_net (by omega)) (show P_gw _ _ 271 [.ref G, P_z ig, .ref S, P_z ((nn : Nat) : Int), P_z i, P_z (sn i)] [] _ _ _ _ _ _ _ from ?_)
    refine P_gw_op (L' := [.ref G, P_z ig, .ref S, P_z ((nn : Nat) : Int), P_z (i + 1), P_z (sn i)]) (st' := []) P_i192_271 (P_o_iinc rfl) (show P_gw _ _ 274 [.ref G, P_z ig, .ref S, P_z ((nn : Nat) : Int), P_z (i + 1), P_z (sn i)] [] _ _ _ _ _ _ _ from ?_)
    refine P_gw_goto P_i192_274 (show P_gw _ _ 245 [.ref G, P_z ig, .ref S, P_z ((nn : Nat) : Int), P_z (i + 1), P_un] [] _ _ _ _ _ _ _ from ?_)
    have htk : tk = X ++ A_sts sn (i + 1).toNat 0 := by rw [htk, show (i + 1).toNat = i.toNat + 1 by omega, G_sts_sn, Int.zero_add, Int.toNat_of_nonneg (by omega), List.append_assoc]
    exact ih σ g τ _ u (i + 1) dr K tk hb hS hIp htk (by omega) hst (by omega) (by omega) (by omega) (fun σ2 g2 τ2 N2 u2 K2 tk2 z a1 a2 a3 a4 a5 a6 => q σ2 g2 τ2 N2 u2 K2 tk2 z a1 a2 a3 a4 a5 (by omega))

theorem wr_4 {d : Nat} {w : P_Lw} {σ : P_A} {g : P_Gl} {τ : P_A} {N u : Nat} {Q : P_GQ} (hw : P_Cw w) {G T : Nat} {tt : Int → Nat} {rT : Int → Nat} {tr : Int → Int → Nat} {cT : Int → Nat} {VV : Int → Int → Int → Int} {L : Nat} {S nn : Nat} {sn : Int → Int} {I m : Nat} {gi : Int → Int} {σ0 : P_A} {ig : Int} {X : List Int} {K : Nat} {tk : List Int} {dr : Int} (hig : 0 ≤ ig ∧ ig ≤ 1) (hb : G_Wb w σ g τ G T tt rT tr cT VV L K tk dr) (hS : P_gS g τ G S nn 3 sn) (hIp : P_gRw g τ G 6 8 I m gi) (htk : tk = X) (htl : tk.length ≤ 7) (hst : G_tf σ0 σ) (hdr : 0 ≤ dr ∧ dr ≤ 800100) (q : ∀ σ' g' τ' N' u' K' tk' z, G_Wb w σ' g' τ' G T tt rT tr cT VV L K' tk' dr → P_gS g' τ' G S nn 3 sn → P_gRw g' τ' G 6 8 I m gi → tk' = X ++ [1] ++ A_sts sn nn 0 → G_tf σ0 σ' → u' ≤ u + 300 → P_gw (d + 12) 192 277 [.ref G, P_z ig, .ref S, P_z ((nn : Nat) : Int), P_z z, P_un] [] w σ' g' τ' N' u' Q) : P_gw (d + 12) 192 224 [.ref G, P_z ig, P_z (-1), P_un, P_un, P_un] [] w σ g τ N u Q := by
  refine P_gw_lts (fun hlt => ?_)
  obtain ⟨hT, hL, hK, hct, hTK, h0, hs1, hdr2⟩ := id hb
  have hlG := hlt _ _ _ hT.1.1
  have hn1 := hS.2.2.1
  refine P_gw_op (L' := [.ref G, P_z ig, P_z (-1), P_un, P_un, P_un]) (st' := [.ref G]) P_i192_224 rfl (show P_gw _ _ 225 [.ref G, P_z ig, P_z (-1), P_un, P_un, P_un] [.ref G] _ _ _ _ _ _ _ from ?_)
  refine P_gw_op (L' := [.ref G, P_z ig, P_z (-1), P_un, P_un, P_un]) (st' := [P_z 1, .ref G]) P_i192_225 rfl (show P_gw _ _ 226 [.ref G, P_z ig, P_z (-1), P_un, P_un, P_un] [P_z 1, .ref G] _ _ _ _ _ _ _ from ?_)
  have htl1 : tk.length < 40 := by omega
  refine P_gw_call P_i192_226 rfl rfl (fun _ => rfl) rfl rfl rfl rfl (y2 := 190) (as := [.ref G, P_z 1]) (r0 := []) (P_ginv_v (hT.1.1) rfl rfl) (Nat.le_of_ble_eq_true rfl) (by decide) rfl (Nat.le_of_ble_eq_true rfl) (g_tok hw hb (t := 1) htl1 (by omega) (fun σ g τ u hb hf hsf hub => ?_))
  have hS := P_gS_fr hf ⟨id, id⟩ (G_n5f (by omega)) hS
  have hIp := P_gRw_fr hf ⟨id, id⟩ (by omega) (G_n5f (by omega)) hIp
  obtain ⟨tk, htq⟩ : ∃ x, x = tk ++ [1] := ⟨_, rfl⟩
  rw [← htq] at hb
  have htl := congrArg List.length htq
  simp only [List.length_append, List.length_cons, List.length_nil] at htl
  rw [htk] at htq
  have htk := htq
  have hst := G_tf_tr hst hsf
  obtain ⟨K, hKq⟩ : ∃ x, x = N := ⟨_, rfl⟩
  rw [← hKq] at hb
  refine P_gw_re (Pr := fun g' τ' N' u' => g = g' ∧ τ = τ' ∧ u = u' ∧ N < N') ⟨rfl, rfl, rfl, by omega⟩ (fun g1 τ1 N u1 hre => ?_)
  obtain ⟨rfl, rfl, rfl, hNN⟩ := hre
  refine P_gw_lts (fun hlt => ?_)
  obtain ⟨hT, hL, hK, hct, hTK, h0, hs1, hdr2⟩ := id hb
  have hlG := hlt _ _ _ hT.1.1
  show P_gw _ _ 229 [.ref G, P_z ig, P_z (-1), P_un, P_un, P_un] [P_z 1] _ _ _ _ _ _ _
  refine P_gw_izt P_i192_229 ⟨by decide, by decide⟩ (P_ci_net (by omega)) (show P_gw _ _ 234 [.ref G, P_z ig, P_z (-1), P_un, P_un, P_un] [] _ _ _ _ _ _ _ from ?_)
  refine P_gw_op (L' := [.ref G, P_z ig, P_z (-1), P_un, P_un, P_un]) (st' := [.ref G]) P_i192_234 rfl (show P_gw _ _ 235 [.ref G, P_z ig, P_z (-1), P_un, P_un, P_un] [.ref G] _ _ _ _ _ _ _ from ?_)
  refine P_gw_getR (P_i192_235) (hT.1.1) rfl rfl (hS.1.2) (show P_gw _ _ 238 [.ref G, P_z ig, P_z (-1), P_un, P_un, P_un] [.ref S] _ _ _ _ _ _ _ from ?_)
  refine P_gw_op (L' := [.ref G, P_z ig, .ref S, P_un, P_un, P_un]) (st' := []) P_i192_238 rfl (show P_gw _ _ 239 [.ref G, P_z ig, .ref S, P_un, P_un, P_un] [] _ _ _ _ _ _ _ from ?_)
  refine P_gw_op (L' := [.ref G, P_z ig, .ref S, P_un, P_un, P_un]) (st' := [.ref S]) P_i192_239 rfl (show P_gw _ _ 240 [.ref G, P_z ig, .ref S, P_un, P_un, P_un] [.ref S] _ _ _ _ _ _ _ from ?_)
  refine P_gw_alen P_i192_240 (hS.2.1) (show P_gw _ _ 241 [.ref G, P_z ig, .ref S, P_un, P_un, P_un] [P_z ((nn : Nat) : Int)] _ _ _ _ _ _ _ from ?_)
  refine P_gw_op (L' := [.ref G, P_z ig, .ref S, P_z ((nn : Nat) : Int), P_un, P_un]) (st' := []) P_i192_241 rfl (show P_gw _ _ 242 [.ref G, P_z ig, .ref S, P_z ((nn : Nat) : Int), P_un, P_un] [] _ _ _ _ _ _ _ from ?_)
  refine P_gw_op (L' := [.ref G, P_z ig, .ref S, P_z ((nn : Nat) : Int), P_un, P_un]) (st' := [P_z 0]) P_i192_242 rfl (show P_gw _ _ 243 [.ref G, P_z ig, .ref S, P_z ((nn : Nat) : Int), P_un, P_un] [P_z 0] _ _ _ _ _ _ _ from ?_)
  refine P_gw_op (L' := [.ref G, P_z ig, .ref S, P_z ((nn : Nat) : Int), P_z 0, P_un]) (st' := []) P_i192_243 rfl (show P_gw _ _ 245 [.ref G, P_z ig, .ref S, P_z ((nn : Nat) : Int), P_z 0, P_un] [] _ _ _ _ _ _ _ from ?_)
  refine wr_T hw (ig := ig) (X := tk) (σ0 := σ0) (by omega) nn σ g τ _ u 0 dr K tk hb hS hIp (by simp [A_sts]) (by omega) hst (by omega) (by omega) (by omega) (fun σ2 g2 τ2 N2 u2 K2 tk2 z a1 a2 a3 a4 a5 a6 => ?_)
  exact q σ2 g2 τ2 N2 u2 K2 tk2 z a1 a2 a3 (by rw [a4, htk]) a5 (by omega)
