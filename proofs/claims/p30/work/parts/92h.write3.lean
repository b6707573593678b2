/-! the law's own methods, written by wip/g1.py: 92h.write3 -/
def G_iok (nn : Nat) (sn : Int → Int) (cT : Int → Nat) (x k c : Int) : Prop := (-199 ≤ x ∧ x ≤ 199) ∧ G_it x k c ∧ A_iok k c ∧ (k ≠ 7 → P_gcol nn sn cT c)
theorem G_its_cg {ki ki' ci ci' : Int → Int} : ∀ (n : Nat) (i : Int), (∀ j, i ≤ j → j < i + (n : Int) → ki' j = ki j ∧ ci' j = ci j) → A_its ki' ci' n i = A_its ki ci n i
  | 0, _, _ => rfl
  | n + 1, i, h => by
    simp only [A_its]
    rw [(h i (by omega) (by omega)).1, (h i (by omega) (by omega)).2, G_its_cg n (i + 1) (fun j a b => h j (by omega) (by omega))]
theorem G_its_sn {ki ci : Int → Int} : ∀ (n : Nat) (i : Int), A_its ki ci (n + 1) i = A_its ki ci n i ++ A_itk (ki (i + (n : Int))) (ci (i + (n : Int)))
  | 0, i => by simp [A_its]
  | n + 1, i => by
    rw [A_its, G_its_sn n (i + 1)]
    simp only [A_its]
    rw [List.append_assoc, show i + 1 + (n : Int) = i + ((n + 1 : Nat) : Int) by omega]
theorem G_its_add {ki ci : Int → Int} {m : Nat} {kv cv : Int} : A_its (G_up ki m kv) (G_up ci m cv) (m + 1) 0 = A_its ki ci m 0 ++ A_itk kv cv := by
  rw [G_its_sn, Int.zero_add, G_up_at, G_up_at, G_its_cg (ki := ki) (ci := ci) m 0 (fun j a b => ⟨G_up_ne (by omega), G_up_ne (by omega)⟩)]
theorem G_iok_add {nn : Nat} {sn : Int → Int} {cT : Int → Nat} {gi ki ci : Int → Int} {m : Nat} {x k c : Int} (h : ∀ j, 0 ≤ j → j < (m : Int) → G_iok nn sn cT (gi j) (ki j) (ci j)) (hx : G_iok nn sn cT x k c) : ∀ j, 0 ≤ j → j < ((m + 1 : Nat) : Int) → G_iok nn sn cT (G_up gi m x j) (G_up ki m k j) (G_up ci m c j) := fun j a b => by
  by_cases e : j = (m : Int)
  · rw [e, G_up_at, G_up_at, G_up_at]; exact hx
  · rw [G_up_ne e, G_up_ne e, G_up_ne e]; exact h j a (by omega)
theorem G_iok_1 {nn : Nat} {sn : Int → Int} {cT : Int → Nat} : G_iok nn sn cT 7 7 (-1) := ⟨by omega, Or.inl ⟨rfl, rfl, rfl⟩, Or.inr (Or.inl ⟨rfl, rfl⟩), fun h => absurd rfl h⟩
theorem G_iok_2 {nn : Nat} {sn : Int → Int} {cT : Int → Nat} {c : Int} (h : P_gcol nn sn cT c) : G_iok nn sn cT (-c) 8 c := by
  have h1 := (P_gcol_v h).1
  exact ⟨by omega, Or.inr (Or.inl ⟨by omega, rfl, by omega⟩), Or.inr (Or.inr ⟨rfl, h1⟩), fun _ => h⟩
theorem G_iok_0 {nn : Nat} {sn : Int → Int} {cT : Int → Nat} {c : Int} (h : P_gcol nn sn cT c) : G_iok nn sn cT c (-1) c := by
  have h1 := (P_gcol_v h).1
  exact ⟨by omega, Or.inr (Or.inr ⟨h1.1, rfl, rfl⟩), Or.inl ⟨rfl, h1⟩, fun _ => h⟩
theorem wr_I {d : Nat} {w : P_Lw} {Q : P_GQ} (hw : P_Cw w) {G T : Nat} {tt : Int → Nat} {rT : Int → Nat} {tr : Int → Int → Nat} {cT : Int → Nat} {VV : Int → Int → Int → Int} {L : Nat} {S nn : Nat} {sn : Int → Int} {σ0 : P_A} {ig : Int} (hig : 0 ≤ ig ∧ ig ≤ 1) : ∀ (n : Nat) (σ : P_A) (g : P_Gl) (τ : P_A) (N : Nat) (u : Nat) (I : Nat) (m : Nat) (gi : Int → Int) (ki : Int → Int) (ci : Int → Int) (k : Int) (dr : Int) (K : Nat) (tk : List Int), (G_Wb w σ g τ G T tt rT tr cT VV L K tk dr) → (P_gS g τ G S nn 3 sn) → (P_gRw g τ G 6 8 I m gi) → (∀ j, 0 ≤ j → j < (m : Int) → G_iok nn sn cT (gi j) (ki j) (ci j)) → (tk = 0 :: A_its ki ci m 0) → (tk.length ≤ 1 + 2 * m) → (G_tf σ0 σ) → (k + 1 = (n : Nat)) → ((m : Int) + (n : Nat) ≤ 3) → (0 ≤ dr ∧ dr + 10 * (n : Nat) ≤ 900000) → (∀ σ' g' τ' N' u' I' gi' ki' ci' K' tk' dr', G_Wb w σ' g' τ' G T tt rT tr cT VV L K' tk' dr' → P_gS g' τ' G S nn 3 sn → P_gRw g' τ' G 6 8 I' (m + n) gi' → (∀ j, 0 ≤ j → j < ((m + n : Nat) : Int) → G_iok nn sn cT (gi' j) (ki' j) (ci' j)) → tk' = 0 :: A_its ki' ci' (m + n) 0 → tk'.length ≤ 1 + 2 * (m + n) → G_tf σ0 σ' → u' ≤ u + 300 * n → dr ≤ dr' → dr' ≤ dr + 10 * (n : Nat) → P_gw (d + 12) 192 224 [.ref G, P_z ig, P_z (-1), P_un, P_un, P_un] [] w σ' g' τ' N' u' Q) → P_gw (d + 12) 192 116 [.ref G, P_z ig, P_z k, P_un, P_un, P_un] [] w σ g τ N u Q := by
  intro n
  induction n with
  | zero =>
    intro σ g τ N u I m gi ki ci k dr K tk hv0 hv1 hv2 hv3 hv4 hv5 hv6 hv7 hv8 hv9 q
    have hb := hv0
    have hS := hv1
    have hIp := hv2
    have hio := hv3
    have htk := hv4
    have hst := hv6
    refine P_gw_op (L' := [.ref G, P_z ig, P_z k, P_un, P_un, P_un]) (st' := [P_z k]) P_i192_116 rfl (show P_gw _ _ 117 [.ref G, P_z ig, P_z k, P_un, P_un, P_un] [P_z k] _ _ _ _ _ _ _ from ?_)
    refine P_gw_izt P_i192_117 ⟨by omega, by omega⟩ (P_ci_ltt (by omega)) (show P_gw _ _ 224 [.ref G, P_z ig, P_z k, P_un, P_un, P_un] [] _ _ _ _ _ _ _ from ?_)
    obtain rfl : k = -1 := by omega
    exact q σ g τ N u I gi ki ci K tk dr hb hS hIp hio htk (by omega) hst (by omega) (by omega) (by omega)
  | succ n ih =>
    intro σ g τ N u I m gi ki ci k dr K tk hv0 hv1 hv2 hv3 hv4 hv5 hv6 hv7 hv8 hv9 q
    have hb := hv0
    have hS := hv1
    have hIp := hv2
    have hio := hv3
    have htk := hv4
    have hst := hv6
    refine P_gw_lts (fun hlt => ?_)
    obtain ⟨hT, hL, hK, hct, hTK, h0, hs1, hdr2⟩ := id hb
    have hlG := hlt _ _ _ hT.1.1
    have hn1 := hS.2.2.1
    refine P_gw_op (L' := [.ref G, P_z ig, P_z k, P_un, P_un, P_un]) (st' := [P_z k]) P_i192_116 rfl (show P_gw _ _ 117 [.ref G, P_z ig, P_z k, P_un, P_un, P_un] [P_z k] _ _ _ _ _ _ _ from ?_)
    refine P_gw_izf P_i192_117 ⟨by omega, by omega⟩ (P_ci_ltf (by omega)) (show P_gw _ _ 120 [.ref G, P_z ig, P_z k, P_un, P_un, P_un] [] _ _ _ _ _ _ _ from ?_)
    refine P_gw_op (L' := [.ref G, P_z ig, P_z k, P_un, P_un, P_un]) (st' := [P_z ig]) P_i192_120 rfl (show P_gw _ _ 121 [.ref G, P_z ig, P_z k, P_un, P_un, P_un] [P_z ig] _ _ _ _ _ _ _ from ?_)
    by_cases hc1 : ig = 0
    · refine P_gw_izt P_i192_121 ⟨by omega, by omega⟩ (P_ci_eqt (by omega)) (show P_gw _ _ 132 [.ref G, P_z ig, P_z k, P_un, P_un, P_un] [] _ _ _ _ _ _ _ from ?_)
      refine P_gw_op (L' := [.ref G, P_z ig, P_z k, P_un, P_un, P_un]) (st' := [P_z 0]) P_i192_132 rfl (show P_gw _ _ 133 [.ref G, P_z ig, P_z k, P_un, P_un, P_un] [P_z 0] _ _ _ _ _ _ _ from ?_)
      refine P_gw_op (L' := [.ref G, P_z ig, P_z k, P_z 0, P_un, P_un]) (st' := []) P_i192_133 rfl (show P_gw _ _ 134 [.ref G, P_z ig, P_z k, P_z 0, P_un, P_un] [] _ _ _ _ _ _ _ from ?_)
      refine P_gw_op (L' := [.ref G, P_z ig, P_z k, P_z 0, P_un, P_un]) (st' := [.ref G]) P_i192_134 rfl (show P_gw _ _ 135 [.ref G, P_z ig, P_z k, P_z 0, P_un, P_un] [.ref G] _ _ _ _ _ _ _ from ?_)
      refine P_gw_call P_i192_135 rfl rfl (fun _ => rfl) rfl rfl rfl rfl (y2 := 191) (as := [.ref G]) (r0 := []) (P_ginv_v (hT.1.1) rfl rfl) (Nat.le_of_ble_eq_true rfl) (by decide) rfl (Nat.le_of_ble_eq_true rfl) (g_col hb hS (by omega) (fun c2 τ dr hc2 hf hdq h2 => ?_))
      have hS := P_gS_fr hf ⟨id, id⟩ (G_n2 (by omega)) hS
      have hIp := P_gRw_fr hf ⟨id, id⟩ (by omega) (G_n2 (by omega)) hIp
      have hb := G_Wb_fr hf (fun r h => h.elim) (fun j h => Or.inl h) h2 hb
      obtain ⟨hT, hL, hK, hct, hTK, h0, hs1, hdr2⟩ := id hb
      have hc2a := (P_gcol_v hc2).1
      show P_gw _ _ 138 [.ref G, P_z ig, P_z k, P_z 0, P_un, P_un] [P_z c2] _ _ _ _ _ _ _
      refine P_gw_op (L' := [.ref G, P_z ig, P_z k, P_z 0, P_z c2, P_un]) (st' := []) P_i192_138 rfl (show P_gw _ _ 140 [.ref G, P_z ig, P_z k, P_z 0, P_z c2, P_un] [] _ _ _ _ _ _ _ from ?_)
      refine P_gw_op (L' := [.ref G, P_z ig, P_z k, P_z 0, P_z c2, P_un]) (st' := [.ref G]) P_i192_140 rfl (show P_gw _ _ 141 [.ref G, P_z ig, P_z k, P_z 0, P_z c2, P_un] [.ref G] _ _ _ _ _ _ _ from ?_)
      refine P_gw_op (L' := [.ref G, P_z ig, P_z k, P_z 0, P_z c2, P_un]) (st' := [.ref G, .ref G]) P_i192_141 rfl (show P_gw _ _ 142 [.ref G, P_z ig, P_z k, P_z 0, P_z c2, P_un] [.ref G, .ref G] _ _ _ _ _ _ _ from ?_)
      refine P_gw_getR (P_i192_142) (hT.1.1) rfl rfl (hIp.1.2) (show P_gw _ _ 145 [.ref G, P_z ig, P_z k, P_z 0, P_z c2, P_un] [.ref I, .ref G] _ _ _ _ _ _ _ from ?_)
      refine P_gw_op (L' := [.ref G, P_z ig, P_z k, P_z 0, P_z c2, P_un]) (st' := [P_z 0, .ref I, .ref G]) P_i192_145 rfl (show P_gw _ _ 146 [.ref G, P_z ig, P_z k, P_z 0, P_z c2, P_un] [P_z 0, .ref I, .ref G] _ _ _ _ _ _ _ from ?_)
      refine P_gw_op (L' := [.ref G, P_z ig, P_z k, P_z 0, P_z c2, P_un]) (st' := [P_z 1, P_z 0, .ref I, .ref G]) P_i192_146 rfl (show P_gw _ _ 147 [.ref G, P_z ig, P_z k, P_z 0, P_z c2, P_un] [P_z 1, P_z 0, .ref I, .ref G] _ _ _ _ _ _ _ from ?_)
      refine P_gw_ict P_i192_147 ⟨by decide, by decide⟩ ⟨by decide, by decide⟩ (P_ci_net (by omega)) (show P_gw _ _ 155 [.ref G, P_z ig, P_z k, P_z 0, P_z c2, P_un] [.ref I, .ref G] _ _ _ _ _ _ _ from ?_)
      refine P_gw_op (L' := [.ref G, P_z ig, P_z k, P_z 0, P_z c2, P_un]) (st' := [P_z 0, .ref I, .ref G]) P_i192_155 rfl (show P_gw _ _ 156 [.ref G, P_z ig, P_z k, P_z 0, P_z c2, P_un] [P_z 0, .ref I, .ref G] _ _ _ _ _ _ _ from ?_)
      refine P_gw_op (L' := [.ref G, P_z ig, P_z k, P_z 0, P_z c2, P_un]) (st' := [P_z 2, P_z 0, .ref I, .ref G]) P_i192_156 rfl (show P_gw _ _ 157 [.ref G, P_z ig, P_z k, P_z 0, P_z c2, P_un] [P_z 2, P_z 0, .ref I, .ref G] _ _ _ _ _ _ _ from ?_)
      refine P_gw_ict P_i192_157 ⟨by decide, by decide⟩ ⟨by decide, by decide⟩ (P_ci_net (by omega)) (show P_gw _ _ 166 [.ref G, P_z ig, P_z k, P_z 0, P_z c2, P_un] [.ref I, .ref G] _ _ _ _ _ _ _ from ?_)
      refine P_gw_op (L' := [.ref G, P_z ig, P_z k, P_z 0, P_z c2, P_un]) (st' := [P_z c2, .ref I, .ref G]) P_i192_166 rfl (show P_gw _ _ 168 [.ref G, P_z ig, P_z k, P_z 0, P_z c2, P_un] [P_z c2, .ref I, .ref G] _ _ _ _ _ _ _ from ?_)
      have hGI : I ≠ G := fun e => by have h := hIp.2.1; rw [e] at h; cases h.symm.trans hT.1.1
      have hlI := (hlt _ _ _ hIp.2.1).2
      refine P_gw_call P_i192_168 rfl rfl (fun _ => rfl) rfl rfl rfl rfl (y2 := 183) (as := [.ref I, P_z c2]) (r0 := [.ref G]) (fun _ _ => rfl) (Nat.le_of_ble_eq_true rfl) (by decide) rfl (Nat.le_of_ble_eq_true rfl) (s_plus 8 hIp.2.1 (by omega) (fun g' τ' u' hx hN h1 h2 hu => ?_))
      show P_gw _ _ 171 [.ref G, P_z ig, P_z k, P_z 0, P_z c2, P_un] [.ref N, .ref G] _ _ _ _ _ _ _
      refine P_gw_putR (b := N) P_i192_171 (((hx G (by omega)).1).trans (hT.1.1)) rfl rfl (fun _ => rfl) (show P_gw _ _ 174 [.ref G, P_z ig, P_z k, P_z 0, P_z c2, P_un] [] _ _ _ _ _ _ _ from ?_)
      have hf : G_fr G_0 (fun j => j = 6) g τ g' (P_u2 τ' G 6 (N : Int)) := G_fr_tr (G_fr_xt hlt hx) (G_fr_f ((hx G (by omega)).1.trans hT.1.1) rfl)
      have hIp := P_gRw_add (f := 6) (fn := gi) hT.1.1 (by omega) hx hN h1 h2 hIp.2.2
      have hio := G_iok_add hio (G_iok_0 hc2)
      obtain ⟨I, hIq⟩ : ∃ x, x = N := ⟨_, rfl⟩
      rw [← hIq] at hIp
      have hb := G_Wb_fr hf (fun r h => h.elim) (fun j h => by omega) ((P_u2_ne (by omega)).trans (((hx G (by omega)).2 _).trans hdr2)) hb
      have hS := P_gS_fr hf ⟨id, id⟩ (by omega) hS
      rw [hIq] at hIp
      refine P_gw_re (Pr := fun g' τ' N' u' => G_Wb w σ g' τ' G T tt rT tr cT VV L K tk dr ∧ P_gS g' τ' G S nn 3 sn ∧ P_gRw g' τ' G 6 8 I (m + 1) (G_up gi m c2) ∧ u' ≤ u + 10) ⟨hb, hS, hIq ▸ hIp, by omega⟩ (fun g τ N u hre => ?_)
      obtain ⟨hb, hS, hIp, hub⟩ := hre
      refine P_gw_lts (fun hlt => ?_)
      obtain ⟨hT, hL, hK, hct, hTK, h0, hs1, hdr2⟩ := id hb
      have hlG := hlt _ _ _ hT.1.1
      refine P_gw_op (L' := [.ref G, P_z ig, P_z k, P_z 0, P_z c2, P_un]) (st' := [P_z 0]) P_i192_174 rfl (show P_gw _ _ 175 [.ref G, P_z ig, P_z k, P_z 0, P_z c2, P_un] [P_z 0] _ _ _ _ _ _ _ from ?_)
      refine P_gw_op (L' := [.ref G, P_z ig, P_z k, P_z 0, P_z c2, P_un]) (st' := [P_z 1, P_z 0]) P_i192_175 rfl (show P_gw _ _ 176 [.ref G, P_z ig, P_z k, P_z 0, P_z c2, P_un] [P_z 1, P_z 0] _ _ _ _ _ _ _ from ?_)
      refine P_gw_ict P_i192_176 ⟨by decide, by decide⟩ ⟨by decide, by decide⟩ (P_ci_net (by omega)) (show P_gw _ _ 188 [.ref G, P_z ig, P_z k, P_z 0, P_z c2, P_un] [] _ _ _ _ _ _ _ from ?_)
      refine P_gw_op (L' := [.ref G, P_z ig, P_z k, P_z 0, P_z c2, P_un]) (st' := [P_z 0]) P_i192_188 rfl (show P_gw _ _ 189 [.ref G, P_z ig, P_z k, P_z 0, P_z c2, P_un] [P_z 0] _ _ _ _ _ _ _ from ?_)
      refine P_gw_op (L' := [.ref G, P_z ig, P_z k, P_z 0, P_z c2, P_un]) (st' := [P_z 2, P_z 0]) P_i192_189 rfl (show P_gw _ _ 190 [.ref G, P_z ig, P_z k, P_z 0, P_z c2, P_un] [P_z 2, P_z 0] _ _ _ _ _ _ _ from ?_)
      refine P_gw_ict P_i192_190 ⟨by decide, by decide⟩ ⟨by decide, by decide⟩ (P_ci_net (by omega)) (show P_gw _ _ 202 [.ref G, P_z ig, P_z k, P_z 0, P_z c2, P_un] [] _ _ _ _ _ _ _ from ?_)
      refine P_gw_op (L' := [.ref G, P_z ig, P_z k, P_z 0, P_z c2, P_un]) (st' := [P_z 0]) P_i192_202 rfl (show P_gw _ _ 203 [.ref G, P_z ig, P_z k, P_z 0, P_z c2, P_un] [P_z 0] _ _ _ _ _ _ _ from ?_)
      refine P_gw_op (L' := [.ref G, P_z ig, P_z k, P_z 0, P_z c2, P_un]) (st' := [P_z 1, P_z 0]) P_i192_203 rfl (show P_gw _ _ 204 [.ref G, P_z ig, P_z k, P_z 0, P_z c2, P_un] [P_z 1, P_z 0] _ _ _ _ _ _ _ from ?_)
      refine P_gw_icf P_i192_204 ⟨by decide, by decide⟩ ⟨by decide, by decide⟩ (P_ci_eqf (by omega)) (show P_gw _ _ 207 [.ref G, P_z ig, P_z k, P_z 0, P_z c2, P_un] [] _ _ _ _ _ _ _ from ?_)
      refine P_gw_op (L' := [.ref G, P_z ig, P_z k, P_z 0, P_z c2, P_un]) (st' := [.ref G]) P_i192_207 rfl (show P_gw _ _ 208 [.ref G, P_z ig, P_z k, P_z 0, P_z c2, P_un] [.ref G] _ _ _ _ _ _ _ from ?_)
      refine P_gw_op (L' := [.ref G, P_z ig, P_z k, P_z 0, P_z c2, P_un]) (st' := [P_z c2, .ref G]) P_i192_208 rfl (show P_gw _ _ 210 [.ref G, P_z ig, P_z k, P_z 0, P_z c2, P_un] [P_z c2, .ref G] _ _ _ _ _ _ _ from ?_)
      have htl3 : tk.length < 40 := by omega
      refine P_gw_call P_i192_210 rfl rfl (fun _ => rfl) rfl rfl rfl rfl (y2 := 190) (as := [.ref G, P_z c2]) (r0 := []) (P_ginv_v (hT.1.1) rfl rfl) (Nat.le_of_ble_eq_true rfl) (by decide) rfl (Nat.le_of_ble_eq_true rfl) (g_tok hw hb (t := c2) htl3 (by omega) (fun σ g τ u hb hf hsf hub => ?_))
      have hS := P_gS_fr hf ⟨id, id⟩ (G_n5f (by omega)) hS
      have hIp := P_gRw_fr hf ⟨id, id⟩ (by omega) (G_n5f (by omega)) hIp
      obtain ⟨tk, htq⟩ : ∃ x, x = tk ++ [c2] := ⟨_, rfl⟩
      rw [← htq] at hb
      have htl := congrArg List.length htq
      simp only [List.length_append, List.length_cons, List.length_nil] at htl
      rw [htk] at htq
      have htk := htq
      have hst := G_tf_tr hst hsf
      obtain ⟨K, hKq⟩ : ∃ x, x = N := ⟨_, rfl⟩
      rw [← hKq] at hb
      refine P_gw_re (Pr := fun g' τ' N' u' => g = g' ∧ τ = τ' ∧ u = u' ∧ N < N') ⟨rfl, rfl, rfl, by omega⟩ (fun g1 τ1 N u1 hre => ?_)
      obtain ⟨rfl, rfl, rfl, hNN⟩ := hre
      refine P_gw_lts (fun hlt => ?_)
      obtain ⟨hT, hL, hK, hct, hTK, h0, hs1, hdr2⟩ := id hb
      have hlG := hlt _ _ _ hT.1.1
      show P_gw _ _ 213 [.ref G, P_z ig, P_z k, P_z 0, P_z c2, P_un] [P_z 1] _ _ _ _ _ _ _
      refine P_gw_izt P_i192_213 ⟨by decide, by decide⟩ (P_ci_net (by omega)) (show P_gw _ _ 218 [.ref G, P_z ig, P_z k, P_z 0, P_z c2, P_un] [] _ _ _ _ _ _ _ from ?_)
      refine P_gw_op (L' := [.ref G, P_z ig, P_z (k + (-1)), P_z 0, P_z c2, P_un]) (st' := []) P_i192_218 (P_o_iinc rfl) (show P_gw _ _ 221 [.ref G, P_z ig, P_z (k + (-1)), P_z 0, P_z c2, P_un] [] _ _ _ _ _ _ _ from ?_)
      refine P_gw_goto P_i192_221 (show P_gw _ _ 116 [.ref G, P_z ig, P_z (k + (-1)), P_un, P_un, P_un] [] _ _ _ _ _ _ _ from ?_)
      have htk : tk = 0 :: A_its (G_up ki m (-1)) (G_up ci m c2) (m + 1) 0 := by rw [htk, G_its_add]; simp [A_itk, List.append_assoc]
      exact ih σ g τ _ u I (m + 1) (G_up gi m c2) (G_up ki m (-1)) (G_up ci m c2) (k + (-1)) dr K tk hb hS hIp hio htk (by omega) hst (by omega) (by omega) (by omega) (fun σ2 g2 τ2 N2 u2 I2 gi2 ki2 ci2 K2 tk2 dr2 a1 a2 a3 a4 a5 a6 a7 a8 a9 a10 => q σ2 g2 τ2 N2 u2 I2 gi2 ki2 ci2 K2 tk2 dr2 a1 a2 (by rw [show m + (n + 1) = m + 1 + n by omega]; exact a3) (by rw [show m + (n + 1) = m + 1 + n by omega]; exact a4) (by rw [show m + (n + 1) = m + 1 + n by omega]; exact a5) (by omega) a7 (by omega) (by omega) (by omega))
    · refine P_gw_izf P_i192_121 ⟨by omega, by omega⟩ (P_ci_eqf (by omega)) (show P_gw _ _ 124 [.ref G, P_z ig, P_z k, P_un, P_un, P_un] [] _ _ _ _ _ _ _ from ?_)
      refine P_gw_op (L' := [.ref G, P_z ig, P_z k, P_un, P_un, P_un]) (st' := [.ref G]) P_i192_124 rfl (show P_gw _ _ 125 [.ref G, P_z ig, P_z k, P_un, P_un, P_un] [.ref G] _ _ _ _ _ _ _ from ?_)
      refine P_gw_op (L' := [.ref G, P_z ig, P_z k, P_un, P_un, P_un]) (st' := [P_z 3, .ref G]) P_i192_125 rfl (show P_gw _ _ 126 [.ref G, P_z ig, P_z k, P_un, P_un, P_un] [P_z 3, .ref G] _ _ _ _ _ _ _ from ?_)
      refine P_gw_call P_i192_126 rfl rfl (fun _ => rfl) rfl rfl rfl rfl (y2 := 182) (as := [.ref G, P_z 3]) (r0 := []) (P_ginv_v (hT.1.1) rfl rfl) (Nat.le_of_ble_eq_true rfl) (by decide) rfl (Nat.le_of_ble_eq_true rfl) (g_drw hT.1.1 hs1 hdr2 (by omega) (by omega) (fun v2 τ dr hv2a hv2b hf hdq h2 => ?_))
      have hS := P_gS_fr hf ⟨id, id⟩ (G_n2 (by omega)) hS
      have hIp := P_gRw_fr hf ⟨id, id⟩ (by omega) (G_n2 (by omega)) hIp
      have hb := G_Wb_fr hf (fun r h => h.elim) (fun j h => Or.inl h) h2 hb
      obtain ⟨hT, hL, hK, hct, hTK, h0, hs1, hdr2⟩ := id hb
      show P_gw _ _ 129 [.ref G, P_z ig, P_z k, P_un, P_un, P_un] [P_z v2] _ _ _ _ _ _ _
      refine P_gw_goto P_i192_129 (show P_gw _ _ 133 [.ref G, P_z ig, P_z k, P_un, P_un, P_un] [P_z v2] _ _ _ _ _ _ _ from ?_)
      refine P_gw_op (L' := [.ref G, P_z ig, P_z k, P_z v2, P_un, P_un]) (st' := []) P_i192_133 rfl (show P_gw _ _ 134 [.ref G, P_z ig, P_z k, P_z v2, P_un, P_un] [] _ _ _ _ _ _ _ from ?_)
      refine P_gw_op (L' := [.ref G, P_z ig, P_z k, P_z v2, P_un, P_un]) (st' := [.ref G]) P_i192_134 rfl (show P_gw _ _ 135 [.ref G, P_z ig, P_z k, P_z v2, P_un, P_un] [.ref G] _ _ _ _ _ _ _ from ?_)
      refine P_gw_call P_i192_135 rfl rfl (fun _ => rfl) rfl rfl rfl rfl (y2 := 191) (as := [.ref G]) (r0 := []) (P_ginv_v (hT.1.1) rfl rfl) (Nat.le_of_ble_eq_true rfl) (by decide) rfl (Nat.le_of_ble_eq_true rfl) (g_col hb hS (by omega) (fun c3 τ dr hc3 hf hdq h2 => ?_))
      have hS := P_gS_fr hf ⟨id, id⟩ (G_n2 (by omega)) hS
      have hIp := P_gRw_fr hf ⟨id, id⟩ (by omega) (G_n2 (by omega)) hIp
      have hb := G_Wb_fr hf (fun r h => h.elim) (fun j h => Or.inl h) h2 hb
      obtain ⟨hT, hL, hK, hct, hTK, h0, hs1, hdr2⟩ := id hb
      have hc3a := (P_gcol_v hc3).1
      show P_gw _ _ 138 [.ref G, P_z ig, P_z k, P_z v2, P_un, P_un] [P_z c3] _ _ _ _ _ _ _
      refine P_gw_op (L' := [.ref G, P_z ig, P_z k, P_z v2, P_z c3, P_un]) (st' := []) P_i192_138 rfl (show P_gw _ _ 140 [.ref G, P_z ig, P_z k, P_z v2, P_z c3, P_un] [] _ _ _ _ _ _ _ from ?_)
      refine P_gw_op (L' := [.ref G, P_z ig, P_z k, P_z v2, P_z c3, P_un]) (st' := [.ref G]) P_i192_140 rfl (show P_gw _ _ 141 [.ref G, P_z ig, P_z k, P_z v2, P_z c3, P_un] [.ref G] _ _ _ _ _ _ _ from ?_)
      refine P_gw_op (L' := [.ref G, P_z ig, P_z k, P_z v2, P_z c3, P_un]) (st' := [.ref G, .ref G]) P_i192_141 rfl (show P_gw _ _ 142 [.ref G, P_z ig, P_z k, P_z v2, P_z c3, P_un] [.ref G, .ref G] _ _ _ _ _ _ _ from ?_)
      refine P_gw_getR (P_i192_142) (hT.1.1) rfl rfl (hIp.1.2) (show P_gw _ _ 145 [.ref G, P_z ig, P_z k, P_z v2, P_z c3, P_un] [.ref I, .ref G] _ _ _ _ _ _ _ from ?_)
      refine P_gw_op (L' := [.ref G, P_z ig, P_z k, P_z v2, P_z c3, P_un]) (st' := [P_z v2, .ref I, .ref G]) P_i192_145 rfl (show P_gw _ _ 146 [.ref G, P_z ig, P_z k, P_z v2, P_z c3, P_un] [P_z v2, .ref I, .ref G] _ _ _ _ _ _ _ from ?_)
      refine P_gw_op (L' := [.ref G, P_z ig, P_z k, P_z v2, P_z c3, P_un]) (st' := [P_z 1, P_z v2, .ref I, .ref G]) P_i192_146 rfl (show P_gw _ _ 147 [.ref G, P_z ig, P_z k, P_z v2, P_z c3, P_un] [P_z 1, P_z v2, .ref I, .ref G] _ _ _ _ _ _ _ from ?_)
      by_cases hc4 : v2 = 1
      · refine P_gw_icf P_i192_147 ⟨by omega, by omega⟩ ⟨by decide, by decide⟩ (P_ci_nef (by omega)) (show P_gw _ _ 150 [.ref G, P_z ig, P_z k, P_z v2, P_z c3, P_un] [.ref I, .ref G] _ _ _ _ _ _ _ from ?_)
        refine P_gw_op (L' := [.ref G, P_z ig, P_z k, P_z v2, P_z c3, P_un]) (st' := [P_z 7, .ref I, .ref G]) P_i192_150 (P_o_bi (by decide)) (show P_gw _ _ 152 [.ref G, P_z ig, P_z k, P_z v2, P_z c3, P_un] [P_z 7, .ref I, .ref G] _ _ _ _ _ _ _ from ?_)
        refine P_gw_goto P_i192_152 (show P_gw _ _ 168 [.ref G, P_z ig, P_z k, P_z v2, P_z c3, P_un] [P_z 7, .ref I, .ref G] _ _ _ _ _ _ _ from ?_)
        have hGI : I ≠ G := fun e => by have h := hIp.2.1; rw [e] at h; cases h.symm.trans hT.1.1
        have hlI := (hlt _ _ _ hIp.2.1).2
        refine P_gw_call P_i192_168 rfl rfl (fun _ => rfl) rfl rfl rfl rfl (y2 := 183) (as := [.ref I, P_z 7]) (r0 := [.ref G]) (fun _ _ => rfl) (Nat.le_of_ble_eq_true rfl) (by decide) rfl (Nat.le_of_ble_eq_true rfl) (s_plus 8 hIp.2.1 (by omega) (fun g' τ' u' hx hN h1 h2 hu => ?_))
        show P_gw _ _ 171 [.ref G, P_z ig, P_z k, P_z v2, P_z c3, P_un] [.ref N, .ref G] _ _ _ _ _ _ _
        refine P_gw_putR (b := N) P_i192_171 (((hx G (by omega)).1).trans (hT.1.1)) rfl rfl (fun _ => rfl) (show P_gw _ _ 174 [.ref G, P_z ig, P_z k, P_z v2, P_z c3, P_un] [] _ _ _ _ _ _ _ from ?_)
        have hf : G_fr G_0 (fun j => j = 6) g τ g' (P_u2 τ' G 6 (N : Int)) := G_fr_tr (G_fr_xt hlt hx) (G_fr_f ((hx G (by omega)).1.trans hT.1.1) rfl)
        have hIp := P_gRw_add (f := 6) (fn := gi) hT.1.1 (by omega) hx hN h1 h2 hIp.2.2
        have hio := G_iok_add hio G_iok_1
        obtain ⟨I, hIq⟩ : ∃ x, x = N := ⟨_, rfl⟩
        rw [← hIq] at hIp
        have hb := G_Wb_fr hf (fun r h => h.elim) (fun j h => by omega) ((P_u2_ne (by omega)).trans (((hx G (by omega)).2 _).trans hdr2)) hb
        have hS := P_gS_fr hf ⟨id, id⟩ (by omega) hS
        rw [hIq] at hIp
        refine P_gw_re (Pr := fun g' τ' N' u' => G_Wb w σ g' τ' G T tt rT tr cT VV L K tk dr ∧ P_gS g' τ' G S nn 3 sn ∧ P_gRw g' τ' G 6 8 I (m + 1) (G_up gi m 7) ∧ u' ≤ u + 10) ⟨hb, hS, hIq ▸ hIp, by omega⟩ (fun g τ N u hre => ?_)
        obtain ⟨hb, hS, hIp, hub⟩ := hre
        refine P_gw_lts (fun hlt => ?_)
        obtain ⟨hT, hL, hK, hct, hTK, h0, hs1, hdr2⟩ := id hb
        have hlG := hlt _ _ _ hT.1.1
        refine P_gw_op (L' := [.ref G, P_z ig, P_z k, P_z v2, P_z c3, P_un]) (st' := [P_z v2]) P_i192_174 rfl (show P_gw _ _ 175 [.ref G, P_z ig, P_z k, P_z v2, P_z c3, P_un] [P_z v2] _ _ _ _ _ _ _ from ?_)
        refine P_gw_op (L' := [.ref G, P_z ig, P_z k, P_z v2, P_z c3, P_un]) (st' := [P_z 1, P_z v2]) P_i192_175 rfl (show P_gw _ _ 176 [.ref G, P_z ig, P_z k, P_z v2, P_z c3, P_un] [P_z 1, P_z v2] _ _ _ _ _ _ _ from ?_)
        refine P_gw_icf P_i192_176 ⟨by omega, by omega⟩ ⟨by decide, by decide⟩ (P_ci_nef (by omega)) (show P_gw _ _ 179 [.ref G, P_z ig, P_z k, P_z v2, P_z c3, P_un] [] _ _ _ _ _ _ _ from ?_)
        refine P_gw_op (L' := [.ref G, P_z ig, P_z k, P_z v2, P_z c3, P_un]) (st' := [.ref G]) P_i192_179 rfl (show P_gw _ _ 180 [.ref G, P_z ig, P_z k, P_z v2, P_z c3, P_un] [.ref G] _ _ _ _ _ _ _ from ?_)
        refine P_gw_op (L' := [.ref G, P_z ig, P_z k, P_z v2, P_z c3, P_un]) (st' := [P_z 7, .ref G]) P_i192_180 (P_o_bi (by decide)) (show P_gw _ _ 182 [.ref G, P_z ig, P_z k, P_z v2, P_z c3, P_un] [P_z 7, .ref G] _ _ _ _ _ _ _ from ?_)
        have htl5 : tk.length < 40 := by omega
        refine P_gw_call P_i192_182 rfl rfl (fun _ => rfl) rfl rfl rfl rfl (y2 := 190) (as := [.ref G, P_z 7]) (r0 := []) (P_ginv_v (hT.1.1) rfl rfl) (Nat.le_of_ble_eq_true rfl) (by decide) rfl (Nat.le_of_ble_eq_true rfl) (g_tok hw hb (t := 7) htl5 (by omega) (fun σ g τ u hb hf hsf hub => ?_))
        have hS := P_gS_fr hf ⟨id, id⟩ (G_n5f (by omega)) hS
        have hIp := P_gRw_fr hf ⟨id, id⟩ (by omega) (G_n5f (by omega)) hIp
        obtain ⟨tk, htq⟩ : ∃ x, x = tk ++ [7] := ⟨_, rfl⟩
        rw [← htq] at hb
        have htl := congrArg List.length htq
        simp only [List.length_append, List.length_cons, List.length_nil] at htl
        rw [htk] at htq
        have htk := htq
        have hst := G_tf_tr hst hsf
        obtain ⟨K, hKq⟩ : ∃ x, x = N := ⟨_, rfl⟩
        rw [← hKq] at hb
        refine P_gw_re (Pr := fun g' τ' N' u' => g = g' ∧ τ = τ' ∧ u = u' ∧ N < N') ⟨rfl, rfl, rfl, by omega⟩ (fun g1 τ1 N u1 hre => ?_)
        obtain ⟨rfl, rfl, rfl, hNN⟩ := hre
        refine P_gw_lts (fun hlt => ?_)
        obtain ⟨hT, hL, hK, hct, hTK, h0, hs1, hdr2⟩ := id hb
        have hlG := hlt _ _ _ hT.1.1
        show P_gw _ _ 185 [.ref G, P_z ig, P_z k, P_z v2, P_z c3, P_un] [P_z 1] _ _ _ _ _ _ _
        refine P_gw_izf P_i192_185 ⟨by decide, by decide⟩ (P_ci_eqf (by omega)) (show P_gw _ _ 188 [.ref G, P_z ig, P_z k, P_z v2, P_z c3, P_un] [] _ _ _ _ _ _ _ from ?_)
        refine P_gw_op (L' := [.ref G, P_z ig, P_z k, P_z v2, P_z c3, P_un]) (st' := [P_z v2]) P_i192_188 rfl (show P_gw _ _ 189 [.ref G, P_z ig, P_z k, P_z v2, P_z c3, P_un] [P_z v2] _ _ _ _ _ _ _ from ?_)
        refine P_gw_op (L' := [.ref G, P_z ig, P_z k, P_z v2, P_z c3, P_un]) (st' := [P_z 2, P_z v2]) P_i192_189 rfl (show P_gw _ _ 190 [.ref G, P_z ig, P_z k, P_z v2, P_z c3, P_un] [P_z 2, P_z v2] _ _ _ _ _ _ _ from ?_)
        refine P_gw_ict P_i192_190 ⟨by omega, by omega⟩ ⟨by decide, by decide⟩ (P_ci_net (by omega)) (show P_gw _ _ 202 [.ref G, P_z ig, P_z k, P_z v2, P_z c3, P_un] [] _ _ _ _ _ _ _ from ?_)
        refine P_gw_op (L' := [.ref G, P_z ig, P_z k, P_z v2, P_z c3, P_un]) (st' := [P_z v2]) P_i192_202 rfl (show P_gw _ _ 203 [.ref G, P_z ig, P_z k, P_z v2, P_z c3, P_un] [P_z v2] _ _ _ _ _ _ _ from ?_)
        refine P_gw_op (L' := [.ref G, P_z ig, P_z k, P_z v2, P_z c3, P_un]) (st' := [P_z 1, P_z v2]) P_i192_203 rfl (show P_gw _ _ 204 [.ref G, P_z ig, P_z k, P_z v2, P_z c3, P_un] [P_z 1, P_z v2] _ _ _ _ _ _ _ from ?_)
        refine P_gw_ict P_i192_204 ⟨by omega, by omega⟩ ⟨by decide, by decide⟩ (P_ci_eqt (by omega)) (show P_gw _ _ 218 [.ref G, P_z ig, P_z k, P_z v2, P_z c3, P_un] [] _ _ _ _ _ _ _ from ?_)
        refine P_gw_op (L' := [.ref G, P_z ig, P_z (k + (-1)), P_z v2, P_z c3, P_un]) (st' := []) P_i192_218 (P_o_iinc rfl) (show P_gw _ _ 221 [.ref G, P_z ig, P_z (k + (-1)), P_z v2, P_z c3, P_un] [] _ _ _ _ _ _ _ from ?_)
        refine P_gw_goto P_i192_221 (show P_gw _ _ 116 [.ref G, P_z ig, P_z (k + (-1)), P_un, P_un, P_un] [] _ _ _ _ _ _ _ from ?_)
        have htk : tk = 0 :: A_its (G_up ki m 7) (G_up ci m (-1)) (m + 1) 0 := by rw [htk, G_its_add]; simp [A_itk, List.append_assoc]
        exact ih σ g τ _ u I (m + 1) (G_up gi m 7) (G_up ki m 7) (G_up ci m (-1)) (k + (-1)) dr K tk hb hS hIp hio htk (by omega) hst (by omega) (by omega) (by omega) (fun σ2 g2 τ2 N2 u2 I2 gi2 ki2 ci2 K2 tk2 dr2 a1 a2 a3 a4 a5 a6 a7 a8 a9 a10 => q σ2 g2 τ2 N2 u2 I2 gi2 ki2 ci2 K2 tk2 dr2 a1 a2 (by rw [show m + (n + 1) = m + 1 + n by omega]; exact a3) (by rw [show m + (n + 1) = m + 1 + n by omega]; exact a4) (by rw [show m + (n + 1) = m + 1 + n by omega]; exact a5) (by omega) a7 (by omega) (by omega) (by omega))
      · refine P_gw_ict P_i192_147 ⟨by omega, by omega⟩ ⟨by decide, by decide⟩ (P_ci_net (by omega)) (show P_gw _ _ 155 [.ref G, P_z ig, P_z k, P_z v2, P_z c3, P_un] [.ref I, .ref G] _ _ _ _ _ _ _ from ?_)
        refine P_gw_op (L' := [.ref G, P_z ig, P_z k, P_z v2, P_z c3, P_un]) (st' := [P_z v2, .ref I, .ref G]) P_i192_155 rfl (show P_gw _ _ 156 [.ref G, P_z ig, P_z k, P_z v2, P_z c3, P_un] [P_z v2, .ref I, .ref G] _ _ _ _ _ _ _ from ?_)
        refine P_gw_op (L' := [.ref G, P_z ig, P_z k, P_z v2, P_z c3, P_un]) (st' := [P_z 2, P_z v2, .ref I, .ref G]) P_i192_156 rfl (show P_gw _ _ 157 [.ref G, P_z ig, P_z k, P_z v2, P_z c3, P_un] [P_z 2, P_z v2, .ref I, .ref G] _ _ _ _ _ _ _ from ?_)
        by_cases hc5 : v2 = 2
        · refine P_gw_icf P_i192_157 ⟨by omega, by omega⟩ ⟨by decide, by decide⟩ (P_ci_nef (by omega)) (show P_gw _ _ 160 [.ref G, P_z ig, P_z k, P_z v2, P_z c3, P_un] [.ref I, .ref G] _ _ _ _ _ _ _ from ?_)
          refine P_gw_op (L' := [.ref G, P_z ig, P_z k, P_z v2, P_z c3, P_un]) (st' := [P_z c3, .ref I, .ref G]) P_i192_160 rfl (show P_gw _ _ 162 [.ref G, P_z ig, P_z k, P_z v2, P_z c3, P_un] [P_z c3, .ref I, .ref G] _ _ _ _ _ _ _ from ?_)
          refine P_gw_op (L' := [.ref G, P_z ig, P_z k, P_z v2, P_z c3, P_un]) (st' := [P_z (-c3), .ref I, .ref G]) P_i192_162 P_o_ineg (show P_gw _ _ 163 [.ref G, P_z ig, P_z k, P_z v2, P_z c3, P_un] [P_z (-c3), .ref I, .ref G] _ _ _ _ _ _ _ from ?_)
          refine P_gw_goto P_i192_163 (show P_gw _ _ 168 [.ref G, P_z ig, P_z k, P_z v2, P_z c3, P_un] [P_z (-c3), .ref I, .ref G] _ _ _ _ _ _ _ from ?_)
          have hGI : I ≠ G := fun e => by have h := hIp.2.1; rw [e] at h; cases h.symm.trans hT.1.1
          have hlI := (hlt _ _ _ hIp.2.1).2
          refine P_gw_call P_i192_168 rfl rfl (fun _ => rfl) rfl rfl rfl rfl (y2 := 183) (as := [.ref I, P_z (-c3)]) (r0 := [.ref G]) (fun _ _ => rfl) (Nat.le_of_ble_eq_true rfl) (by decide) rfl (Nat.le_of_ble_eq_true rfl) (s_plus 8 hIp.2.1 (by omega) (fun g' τ' u' hx hN h1 h2 hu => ?_))
          show P_gw _ _ 171 [.ref G, P_z ig, P_z k, P_z v2, P_z c3, P_un] [.ref N, .ref G] _ _ _ _ _ _ _
          refine P_gw_putR (b := N) P_i192_171 (((hx G (by omega)).1).trans (hT.1.1)) rfl rfl (fun _ => rfl) (show P_gw _ _ 174 [.ref G, P_z ig, P_z k, P_z v2, P_z c3, P_un] [] _ _ _ _ _ _ _ from ?_)
          have hf : G_fr G_0 (fun j => j = 6) g τ g' (P_u2 τ' G 6 (N : Int)) := G_fr_tr (G_fr_xt hlt hx) (G_fr_f ((hx G (by omega)).1.trans hT.1.1) rfl)
          have hIp := P_gRw_add (f := 6) (fn := gi) hT.1.1 (by omega) hx hN h1 h2 hIp.2.2
          have hio := G_iok_add hio (G_iok_2 hc3)
          obtain ⟨I, hIq⟩ : ∃ x, x = N := ⟨_, rfl⟩
          rw [← hIq] at hIp
          have hb := G_Wb_fr hf (fun r h => h.elim) (fun j h => by omega) ((P_u2_ne (by omega)).trans (((hx G (by omega)).2 _).trans hdr2)) hb
          have hS := P_gS_fr hf ⟨id, id⟩ (by omega) hS
          rw [hIq] at hIp
          refine P_gw_re (Pr := fun g' τ' N' u' => G_Wb w σ g' τ' G T tt rT tr cT VV L K tk dr ∧ P_gS g' τ' G S nn 3 sn ∧ P_gRw g' τ' G 6 8 I (m + 1) (G_up gi m (-c3)) ∧ u' ≤ u + 10) ⟨hb, hS, hIq ▸ hIp, by omega⟩ (fun g τ N u hre => ?_)
          obtain ⟨hb, hS, hIp, hub⟩ := hre
          refine P_gw_lts (fun hlt => ?_)
          obtain ⟨hT, hL, hK, hct, hTK, h0, hs1, hdr2⟩ := id hb
          have hlG := hlt _ _ _ hT.1.1
          refine P_gw_op (L' := [.ref G, P_z ig, P_z k, P_z v2, P_z c3, P_un]) (st' := [P_z v2]) P_i192_174 rfl (show P_gw _ _ 175 [.ref G, P_z ig, P_z k, P_z v2, P_z c3, P_un] [P_z v2] _ _ _ _ _ _ _ from ?_)
          refine P_gw_op (L' := [.ref G, P_z ig, P_z k, P_z v2, P_z c3, P_un]) (st' := [P_z 1, P_z v2]) P_i192_175 rfl (show P_gw _ _ 176 [.ref G, P_z ig, P_z k, P_z v2, P_z c3, P_un] [P_z 1, P_z v2] _ _ _ _ _ _ _ from ?_)
          refine P_gw_ict P_i192_176 ⟨by omega, by omega⟩ ⟨by decide, by decide⟩ (P_ci_net (by omega)) (show P_gw _ _ 188 [.ref G, P_z ig, P_z k, P_z v2, P_z c3, P_un] [] _ _ _ _ _ _ _ from ?_)
          refine P_gw_op (L' := [.ref G, P_z ig, P_z k, P_z v2, P_z c3, P_un]) (st' := [P_z v2]) P_i192_188 rfl (show P_gw _ _ 189 [.ref G, P_z ig, P_z k, P_z v2, P_z c3, P_un] [P_z v2] _ _ _ _ _ _ _ from ?_)
          refine P_gw_op (L' := [.ref G, P_z ig, P_z k, P_z v2, P_z c3, P_un]) (st' := [P_z 2, P_z v2]) P_i192_189 rfl (show P_gw _ _ 190 [.ref G, P_z ig, P_z k, P_z v2, P_z c3, P_un] [P_z 2, P_z v2] _ _ _ _ _ _ _ from ?_)
          refine P_gw_icf P_i192_190 ⟨by omega, by omega⟩ ⟨by decide, by decide⟩ (P_ci_nef (by omega)) (show P_gw _ _ 193 [.ref G, P_z ig, P_z k, P_z v2, P_z c3, P_un] [] _ _ _ _ _ _ _ from ?_)
          refine P_gw_op (L' := [.ref G, P_z ig, P_z k, P_z v2, P_z c3, P_un]) (st' := [.ref G]) P_i192_193 rfl (show P_gw _ _ 194 [.ref G, P_z ig, P_z k, P_z v2, P_z c3, P_un] [.ref G] _ _ _ _ _ _ _ from ?_)
          refine P_gw_op (L' := [.ref G, P_z ig, P_z k, P_z v2, P_z c3, P_un]) (st' := [P_z 8, .ref G]) P_i192_194 (P_o_bi (by decide)) (show P_gw _ _ 196 [.ref G, P_z ig, P_z k, P_z v2, P_z c3, P_un] [P_z 8, .ref G] _ _ _ _ _ _ _ from ?_)
          have htl6 : tk.length < 40 := by omega
          refine P_gw_call P_i192_196 rfl rfl (fun _ => rfl) rfl rfl rfl rfl (y2 := 190) (as := [.ref G, P_z 8]) (r0 := []) (P_ginv_v (hT.1.1) rfl rfl) (Nat.le_of_ble_eq_true rfl) (by decide) rfl (Nat.le_of_ble_eq_true rfl) (g_tok hw hb (t := 8) htl6 (by omega) (fun σ g τ u hb hf hsf hub => ?_))
          have hS := P_gS_fr hf ⟨id, id⟩ (G_n5f (by omega)) hS
          have hIp := P_gRw_fr hf ⟨id, id⟩ (by omega) (G_n5f (by omega)) hIp
          obtain ⟨tk, htq⟩ : ∃ x, x = tk ++ [8] := ⟨_, rfl⟩
          rw [← htq] at hb
          have htl := congrArg List.length htq
          simp only [List.length_append, List.length_cons, List.length_nil] at htl
          rw [htk] at htq
          have htk := htq
          have hst := G_tf_tr hst hsf
          obtain ⟨K, hKq⟩ : ∃ x, x = N := ⟨_, rfl⟩
          rw [← hKq] at hb
          refine P_gw_re (Pr := fun g' τ' N' u' => g = g' ∧ τ = τ' ∧ u = u' ∧ N < N') ⟨rfl, rfl, rfl, by omega⟩ (fun g1 τ1 N u1 hre => ?_)
          obtain ⟨rfl, rfl, rfl, hNN⟩ := hre
          refine P_gw_lts (fun hlt => ?_)
          obtain ⟨hT, hL, hK, hct, hTK, h0, hs1, hdr2⟩ := id hb
          have hlG := hlt _ _ _ hT.1.1
          show P_gw _ _ 199 [.ref G, P_z ig, P_z k, P_z v2, P_z c3, P_un] [P_z 1] _ _ _ _ _ _ _
          refine P_gw_izf P_i192_199 ⟨by decide, by decide⟩ (P_ci_eqf (by omega)) (show P_gw _ _ 202 [.ref G, P_z ig, P_z k, P_z v2, P_z c3, P_un] [] _ _ _ _ _ _ _ from ?_)
          refine P_gw_op (L' := [.ref G, P_z ig, P_z k, P_z v2, P_z c3, P_un]) (st' := [P_z v2]) P_i192_202 rfl (show P_gw _ _ 203 [.ref G, P_z ig, P_z k, P_z v2, P_z c3, P_un] [P_z v2] _ _ _ _ _ _ _ from ?_)
          refine P_gw_op (L' := [.ref G, P_z ig, P_z k, P_z v2, P_z c3, P_un]) (st' := [P_z 1, P_z v2]) P_i192_203 rfl (show P_gw _ _ 204 [.ref G, P_z ig, P_z k, P_z v2, P_z c3, P_un] [P_z 1, P_z v2] _ _ _ _ _ _ _ from ?_)
          refine P_gw_icf P_i192_204 ⟨by omega, by omega⟩ ⟨by decide, by decide⟩ (P_ci_eqf (by omega)) (show P_gw _ _ 207 [.ref G, P_z ig, P_z k, P_z v2, P_z c3, P_un] [] _ _ _ _ _ _ _ from ?_)
          refine P_gw_op (L' := [.ref G, P_z ig, P_z k, P_z v2, P_z c3, P_un]) (st' := [.ref G]) P_i192_207 rfl (show P_gw _ _ 208 [.ref G, P_z ig, P_z k, P_z v2, P_z c3, P_un] [.ref G] _ _ _ _ _ _ _ from ?_)
          refine P_gw_op (L' := [.ref G, P_z ig, P_z k, P_z v2, P_z c3, P_un]) (st' := [P_z c3, .ref G]) P_i192_208 rfl (show P_gw _ _ 210 [.ref G, P_z ig, P_z k, P_z v2, P_z c3, P_un] [P_z c3, .ref G] _ _ _ _ _ _ _ from ?_)
          have htl7 : tk.length < 40 := by omega
          refine P_gw_call P_i192_210 rfl rfl (fun _ => rfl) rfl rfl rfl rfl (y2 := 190) (as := [.ref G, P_z c3]) (r0 := []) (P_ginv_v (hT.1.1) rfl rfl) (Nat.le_of_ble_eq_true rfl) (by decide) rfl (Nat.le_of_ble_eq_true rfl) (g_tok hw hb (t := c3) htl7 (by omega) (fun σ g τ u hb hf hsf hub => ?_))
          have hS := P_gS_fr hf ⟨id, id⟩ (G_n5f (by omega)) hS
          have hIp := P_gRw_fr hf ⟨id, id⟩ (by omega) (G_n5f (by omega)) hIp
          obtain ⟨tk, htq⟩ : ∃ x, x = tk ++ [c3] := ⟨_, rfl⟩
          rw [← htq] at hb
          have htl := congrArg List.length htq
          simp only [List.length_append, List.length_cons, List.length_nil] at htl
          rw [htk] at htq
          have htk := htq
          have hst := G_tf_tr hst hsf
          obtain ⟨K, hKq⟩ : ∃ x, x = N := ⟨_, rfl⟩
          rw [← hKq] at hb
          refine P_gw_re (Pr := fun g' τ' N' u' => g = g' ∧ τ = τ' ∧ u = u' ∧ N < N') ⟨rfl, rfl, rfl, by omega⟩ (fun g1 τ1 N u1 hre => ?_)
          obtain ⟨rfl, rfl, rfl, hNN⟩ := hre
          refine P_gw_lts (fun hlt => ?_)
          obtain ⟨hT, hL, hK, hct, hTK, h0, hs1, hdr2⟩ := id hb
          have hlG := hlt _ _ _ hT.1.1
          show P_gw _ _ 213 [.ref G, P_z ig, P_z k, P_z v2, P_z c3, P_un] [P_z 1] _ _ _ _ _ _ _
          refine P_gw_izt P_i192_213 ⟨by decide, by decide⟩ (P_ci_net (by omega)) (show P_gw _ _ 218 [.ref G, P_z ig, P_z k, P_z v2, P_z c3, P_un] [] _ _ _ _ _ _ _ from ?_)
          refine P_gw_op (L' := [.ref G, P_z ig, P_z (k + (-1)), P_z v2, P_z c3, P_un]) (st' := []) P_i192_218 (P_o_iinc rfl) (show P_gw _ _ 221 [.ref G, P_z ig, P_z (k + (-1)), P_z v2, P_z c3, P_un] [] _ _ _ _ _ _ _ from ?_)
          refine P_gw_goto P_i192_221 (show P_gw _ _ 116 [.ref G, P_z ig, P_z (k + (-1)), P_un, P_un, P_un] [] _ _ _ _ _ _ _ from ?_)
          have htk : tk = 0 :: A_its (G_up ki m 8) (G_up ci m c3) (m + 1) 0 := by rw [htk, G_its_add]; simp [A_itk, List.append_assoc]
          exact ih σ g τ _ u I (m + 1) (G_up gi m (-c3)) (G_up ki m 8) (G_up ci m c3) (k + (-1)) dr K tk hb hS hIp hio htk (by omega) hst (by omega) (by omega) (by omega) (fun σ2 g2 τ2 N2 u2 I2 gi2 ki2 ci2 K2 tk2 dr2 a1 a2 a3 a4 a5 a6 a7 a8 a9 a10 => q σ2 g2 τ2 N2 u2 I2 gi2 ki2 ci2 K2 tk2 dr2 a1 a2 (by rw [show m + (n + 1) = m + 1 + n by omega]; exact a3) (by rw [show m + (n + 1) = m + 1 + n by omega]; exact a4) (by rw [show m + (n + 1) = m + 1 + n by omega]; exact a5) (by omega) a7 (by omega) (by omega) (by omega))
        · refine P_gw_ict P_i192_157 ⟨by omega, by omega⟩ ⟨by decide, by decide⟩ (P_ci_net (by omega)) (show P_gw _ _ 166 [.ref G, P_z ig, P_z k, P_z v2, P_z c3, P_un] [.ref I, .ref G] _ _ _ _ _ _ _ from ?_)
          refine P_gw_op (L' := [.ref G, P_z ig, P_z k, P_z v2, P_z c3, P_un]) (st' := [P_z c3, .ref I, .ref G]) P_i192_166 rfl (show P_gw _ _ 168 [.ref G, P_z ig, P_z k, P_z v2, P_z c3, P_un] [P_z c3, .ref I, .ref G] _ _ _ _ _ _ _ from ?_)
          have hGI : I ≠ G := fun e => by have h := hIp.2.1; rw [e] at h; cases h.symm.trans hT.1.1
          have hlI := (hlt _ _ _ hIp.2.1).2
          refine P_gw_call P_i192_168 rfl rfl (fun _ => rfl) rfl rfl rfl rfl (y2 := 183) (as := [.ref I, P_z c3]) (r0 := [.ref G]) (fun _ _ => rfl) (Nat.le_of_ble_eq_true rfl) (by decide) rfl (Nat.le_of_ble_eq_true rfl) (s_plus 8 hIp.2.1 (by omega) (fun g' τ' u' hx hN h1 h2 hu => ?_))
          show P_gw _ _ 171 [.ref G, P_z ig, P_z k, P_z v2, P_z c3, P_un] [.ref N, .ref G] _ _ _ _ _ _ _
          refine P_gw_putR (b := N) P_i192_171 (((hx G (by omega)).1).trans (hT.1.1)) rfl rfl (fun _ => rfl) (show P_gw _ _ 174 [.ref G, P_z ig, P_z k, P_z v2, P_z c3, P_un] [] _ _ _ _ _ _ _ from ?_)
          have hf : G_fr G_0 (fun j => j = 6) g τ g' (P_u2 τ' G 6 (N : Int)) := G_fr_tr (G_fr_xt hlt hx) (G_fr_f ((hx G (by omega)).1.trans hT.1.1) rfl)
          have hIp := P_gRw_add (f := 6) (fn := gi) hT.1.1 (by omega) hx hN h1 h2 hIp.2.2
          have hio := G_iok_add hio (G_iok_0 hc3)
          obtain ⟨I, hIq⟩ : ∃ x, x = N := ⟨_, rfl⟩
          rw [← hIq] at hIp
          have hb := G_Wb_fr hf (fun r h => h.elim) (fun j h => by omega) ((P_u2_ne (by omega)).trans (((hx G (by omega)).2 _).trans hdr2)) hb
          have hS := P_gS_fr hf ⟨id, id⟩ (by omega) hS
          rw [hIq] at hIp
          refine P_gw_re (Pr := fun g' τ' N' u' => G_Wb w σ g' τ' G T tt rT tr cT VV L K tk dr ∧ P_gS g' τ' G S nn 3 sn ∧ P_gRw g' τ' G 6 8 I (m + 1) (G_up gi m c3) ∧ u' ≤ u + 10) ⟨hb, hS, hIq ▸ hIp, by omega⟩ (fun g τ N u hre => ?_)
          obtain ⟨hb, hS, hIp, hub⟩ := hre
          refine P_gw_lts (fun hlt => ?_)
          obtain ⟨hT, hL, hK, hct, hTK, h0, hs1, hdr2⟩ := id hb
          have hlG := hlt _ _ _ hT.1.1
          refine P_gw_op (L' := [.ref G, P_z ig, P_z k, P_z v2, P_z c3, P_un]) (st' := [P_z v2]) P_i192_174 rfl (show P_gw _ _ 175 [.ref G, P_z ig, P_z k, P_z v2, P_z c3, P_un] [P_z v2] _ _ _ _ _ _ _ from ?_)
          refine P_gw_op (L' := [.ref G, P_z ig, P_z k, P_z v2, P_z c3, P_un]) (st' := [P_z 1, P_z v2]) P_i192_175 rfl (show P_gw _ _ 176 [.ref G, P_z ig, P_z k, P_z v2, P_z c3, P_un] [P_z 1, P_z v2] _ _ _ _ _ _ _ from ?_)
          refine P_gw_ict P_i192_176 ⟨by omega, by omega⟩ ⟨by decide, by decide⟩ (P_ci_net (by omega)) (show P_gw _ _ 188 [.ref G, P_z ig, P_z k, P_z v2, P_z c3, P_un] [] _ _ _ _ _ _ _ from ?_)
          refine P_gw_op (L' := [.ref G, P_z ig, P_z k, P_z v2, P_z c3, P_un]) (st' := [P_z v2]) P_i192_188 rfl (show P_gw _ _ 189 [.ref G, P_z ig, P_z k, P_z v2, P_z c3, P_un] [P_z v2] _ _ _ _ _ _ _ from ?_)
          refine P_gw_op (L' := [.ref G, P_z ig, P_z k, P_z v2, P_z c3, P_un]) (st' := [P_z 2, P_z v2]) P_i192_189 rfl (show P_gw _ _ 190 [.ref G, P_z ig, P_z k, P_z v2, P_z c3, P_un] [P_z 2, P_z v2] _ _ _ _ _ _ _ from ?_)
          refine P_gw_ict P_i192_190 ⟨by omega, by omega⟩ ⟨by decide, by decide⟩ (P_ci_net (by omega)) (show P_gw _ _ 202 [.ref G, P_z ig, P_z k, P_z v2, P_z c3, P_un] [] _ _ _ _ _ _ _ from ?_)
          refine P_gw_op (L' := [.ref G, P_z ig, P_z k, P_z v2, P_z c3, P_un]) (st' := [P_z v2]) P_i192_202 rfl (show P_gw _ _ 203 [.ref G, P_z ig, P_z k, P_z v2, P_z c3, P_un] [P_z v2] _ _ _ _ _ _ _ from ?_)
          refine P_gw_op (L' := [.ref G, P_z ig, P_z k, P_z v2, P_z c3, P_un]) (st' := [P_z 1, P_z v2]) P_i192_203 rfl (show P_gw _ _ 204 [.ref G, P_z ig, P_z k, P_z v2, P_z c3, P_un] [P_z 1, P_z v2] _ _ _ _ _ _ _ from ?_)
          refine P_gw_icf P_i192_204 ⟨by omega, by omega⟩ ⟨by decide, by decide⟩ (P_ci_eqf (by omega)) (show P_gw _ _ 207 [.ref G, P_z ig, P_z k, P_z v2, P_z c3, P_un] [] _ _ _ _ _ _ _ from ?_)
          refine P_gw_op (L' := [.ref G, P_z ig, P_z k, P_z v2, P_z c3, P_un]) (st' := [.ref G]) P_i192_207 rfl (show P_gw _ _ 208 [.ref G, P_z ig, P_z k, P_z v2, P_z c3, P_un] [.ref G] _ _ _ _ _ _ _ from ?_)
          refine P_gw_op (L' := [.ref G, P_z ig, P_z k, P_z v2, P_z c3, P_un]) (st' := [P_z c3, .ref G]) P_i192_208 rfl (show P_gw _ _ 210 [.ref G, P_z ig, P_z k, P_z v2, P_z c3, P_un] [P_z c3, .ref G] _ _ _ _ _ _ _ from ?_)
          have htl6 : tk.length < 40 := by omega
          refine P_gw_call P_i192_210 rfl rfl (fun _ => rfl) rfl rfl rfl rfl (y2 := 190) (as := [.ref G, P_z c3]) (r0 := []) (P_ginv_v (hT.1.1) rfl rfl) (Nat.le_of_ble_eq_true rfl) (by decide) rfl (Nat.le_of_ble_eq_true rfl) (g_tok hw hb (t := c3) htl6 (by omega) (fun σ g τ u hb hf hsf hub => ?_))
          have hS := P_gS_fr hf ⟨id, id⟩ (G_n5f (by omega)) hS
          have hIp := P_gRw_fr hf ⟨id, id⟩ (by omega) (G_n5f (by omega)) hIp
          obtain ⟨tk, htq⟩ : ∃ x, x = tk ++ [c3] := ⟨_, rfl⟩
          rw [← htq] at hb
          have htl := congrArg List.length htq
          simp only [List.length_append, List.length_cons, List.length_nil] at htl
          rw [htk] at htq
          have htk := htq
          have hst := G_tf_tr hst hsf
          obtain ⟨K, hKq⟩ : ∃ x, x = N := ⟨_, rfl⟩
          rw [← hKq] at hb
          refine P_gw_re (Pr := fun g' τ' N' u' => g = g' ∧ τ = τ' ∧ u = u' ∧ N < N') ⟨rfl, rfl, rfl, by omega⟩ (fun g1 τ1 N u1 hre => ?_)
          obtain ⟨rfl, rfl, rfl, hNN⟩ := hre
          refine P_gw_lts (fun hlt => ?_)
          obtain ⟨hT, hL, hK, hct, hTK, h0, hs1, hdr2⟩ := id hb
          have hlG := hlt _ _ _ hT.1.1
          show P_gw _ _ 213 [.ref G, P_z ig, P_z k, P_z v2, P_z c3, P_un] [P_z 1] _ _ _ _ _ _ _
          refine P_gw_izt P_i192_213 ⟨by decide, by decide⟩ (P_ci_net (by omega)) (show P_gw _ _ 218 [.ref G, P_z ig, P_z k, P_z v2, P_z c3, P_un] [] _ _ _ _ _ _ _ from ?_)
          refine P_gw_op (L' := [.ref G, P_z ig, P_z (k + (-1)), P_z v2, P_z c3, P_un]) (st' := []) P_i192_218 (P_o_iinc rfl) (show P_gw _ _ 221 [.ref G, P_z ig, P_z (k + (-1)), P_z v2, P_z c3, P_un] [] _ _ _ _ _ _ _ from ?_)
          refine P_gw_goto P_i192_221 (show P_gw _ _ 116 [.ref G, P_z ig, P_z (k + (-1)), P_un, P_un, P_un] [] _ _ _ _ _ _ _ from ?_)
          have htk : tk = 0 :: A_its (G_up ki m (-1)) (G_up ci m c3) (m + 1) 0 := by rw [htk, G_its_add]; simp [A_itk, List.append_assoc]
          exact ih σ g τ _ u I (m + 1) (G_up gi m c3) (G_up ki m (-1)) (G_up ci m c3) (k + (-1)) dr K tk hb hS hIp hio htk (by omega) hst (by omega) (by omega) (by omega) (fun σ2 g2 τ2 N2 u2 I2 gi2 ki2 ci2 K2 tk2 dr2 a1 a2 a3 a4 a5 a6 a7 a8 a9 a10 => q σ2 g2 τ2 N2 u2 I2 gi2 ki2 ci2 K2 tk2 dr2 a1 a2 (by rw [show m + (n + 1) = m + 1 + n by omega]; exact a3) (by rw [show m + (n + 1) = m + 1 + n by omega]; exact a4) (by rw [show m + (n + 1) = m + 1 + n by omega]; exact a5) (by omega) a7 (by omega) (by omega) (by omega))
