/-! the law's own methods, written by wip/g1.py: 88p.best -/
theorem G_lows_ok {nn : Nat} {sn : Int → Int} {cT : Int → Nat} {cs cs1 : List A_cd} (h : ∀ od, A_lows od cs1 = A_lows od cs) : True := trivial
/-- what stands at the head of the codes' loop -/
def G_bv (g0 : P_Gl) (τ0 : P_A) (g : P_Gl) (τ : P_A) (G B nn Le : Nat) (sn : Int → Int) (cT : Int → Nat) (cs : List A_cd) (ad : Int → Nat) (x : Int × Int) : Prop :=
  G_fr G_R5 G_12 g0 τ0 g τ ∧ (∃ cs1, P_gC g τ G B cs1 ad ∧ (∀ od, A_lows od cs1 = A_lows od cs) ∧ ∀ y ∈ cs1, P_gok nn sn cT y) ∧ (-1 ≤ x.1 ∧ x.1 ≤ 3000) ∧ A_isO (nn : Int) x.2 ∧ (0 ≤ x.1 → g Le = some (6, .inr (.inl nn)) ∧ ∀ j, 0 ≤ j → j < (nn : Int) → τ Le j.toNat = A_od x.2 j)
theorem G_bt_t {cst : Int → Int} {s : Int} {x : Int × Int} (h : x.1 = -1 ∨ cst s < x.1) : A_bt cst s x = (cst s, s) := if_pos h
theorem G_bt_f {cst : Int → Int} {s : Int} {x : Int × Int} (h : ¬ (x.1 = -1 ∨ cst s < x.1)) : A_bt cst s x = x := if_neg h
def G_no (_ : Nat) : Prop := False
theorem G_C_xt {g g' : P_Gl} {τ τ' : P_A} {G N : Nat} {B : Nat} {cs : List A_cd} {ad : Int → Nat} (hlt : ∀ a r sh, g a = some (r, sh) → 2 ≤ a ∧ a < N) (h : P_xt N g τ g' τ') (hC : P_gC g τ G B cs ad) : P_gC g' τ' G B cs ad := P_gC_fr (R := G_no) (F := G_no) (G_fr_xt hlt h) ⟨id, id, id⟩ id hC
theorem g_bk1_0 {d : Nat} {w : P_Lw} {σ : P_A} {g : P_Gl} {τ : P_A} {N u : Nat} {Q : P_GQ} {G : Nat} {g0 : P_Gl} {τ0 : P_A} {T nt : Nat} {tt : Int → Nat} {rT : Int → Nat} {tr : Int → Int → Nat} {cT : Int → Nat} {VV : Int → Int → Int → Int} (hT : P_gT g0 τ0 G T nt tt rT tr cT VV) {S nn : Nat} {sn : Int → Int} (hS : P_gS g0 τ0 G S nn nt sn) {B : Nat} {cs : List A_cd} {ad : Int → Nat} (hm : nn = 1) {nv : Int} (h13 : τ0 G 13 = nv) (hnv : 0 ≤ nv ∧ nv ≤ 1) {cst : Int → Int} (hcst : ∀ s, A_isO (nn : Int) s → (G_co nv sn rT VV (A_lows (A_od s) cs) (A_od s) nn) = cst s ∧ 0 ≤ cst s ∧ cst s ≤ 3000) {Le : Nat} {x : Int × Int} (hv : G_bv g0 τ0 g τ G B nn Le sn cT cs ad x) (q : ∀ g' τ' u' Le', u' ≤ u + 8 → G_bv g0 τ0 g' τ' G B nn Le' sn cT cs ad (A_bt cst 0 x) → P_gw (d + 7) 204 22 [.ref G, .ref Le', P_zl (A_bt cst 0 x).1, P_un, P_z ((nn : Nat) : Int), P_z 1, P_un, P_un, P_un, P_un, P_un, P_un, P_un] [] w σ g' τ' (N + 2) u' Q) : P_gw (d + 7) 204 22 [.ref G, .ref Le, P_zl x.1, P_un, P_z ((nn : Nat) : Int), P_z 0, P_un, P_un, P_un, P_un, P_un, P_un, P_un] [] w σ g τ N u Q := by
  obtain ⟨hf, ⟨cs1, hC, hlo, hok⟩, hx, hxO, hLe⟩ := hv
  have hsO : A_isO (nn : Int) 0 := by unfold A_isO; omega
  have hcs := hcst 0 hsO
  have hC1 := hC
  refine P_gw_lts (fun hlt => ?_)
  refine g_bc1_0 (P_gT_fr hf (fun r a b => by unfold G_R5; omega) (by unfold G_12; omega) hT) (P_gS_fr hf ⟨G_nR5 _ (by omega), G_nR5 _ (by omega)⟩ (by unfold G_12; omega) hS) hC hok hm (((hf G _ _ hT.1.1).2 13 (fun _ => by unfold G_12; omega) (G_nR5 _ (by omega))).trans h13) hnv hx (by rw [hlo]; rw [hcs.1]; exact hcs.2) (fun g' τ' u' hu hf' hC' hO' => ?_)
  rw [hlo, hcs.1]
  rw [hlo] at hC'
  have hcarry : ∃ cs1, P_gC g' τ' G B cs1 ad ∧ (∀ od, A_lows od cs1 = A_lows od cs) ∧ ∀ y ∈ cs1, P_gok nn sn cT y := ⟨_, hC', fun od => G_lows_lows, hlo _ ▸ G_ok_lows hok⟩
  refine ⟨fun hl => ?_, fun hl => ?_⟩
  · have e := G_bt_t (cst := cst) (s := 0) (x := x) hl
    rw [e] at q
    exact q g' τ' u' (N + 1) hu ⟨G_fr_tr hf hf', hcarry, ⟨by simp only; omega, hcs.2.2⟩, hsO, fun _ => ⟨hO'.2.1, fun j a b => (hO'.2.2.1 j a b).1⟩⟩
  · have e := G_bt_f (cst := cst) (s := 0) (x := x) hl
    rw [e] at q
    refine q g' τ' u' Le hu ⟨G_fr_tr hf hf', hcarry, hx, hxO, fun h0 => ?_⟩
    have hL := hLe h0
    exact ⟨(hf' _ _ _ hL.1).1, fun j a b => ((hf' _ _ _ hL.1).2 _ (fun q => by omega) (G_nR5 _ (by omega))).trans (hL.2 j a b)⟩

theorem g_bk1_1 {d : Nat} {w : P_Lw} {σ : P_A} {g : P_Gl} {τ : P_A} {N u : Nat} {Q : P_GQ} {G : Nat} {g0 : P_Gl} {τ0 : P_A} {T nt : Nat} {tt : Int → Nat} {rT : Int → Nat} {tr : Int → Int → Nat} {cT : Int → Nat} {VV : Int → Int → Int → Int} (hT : P_gT g0 τ0 G T nt tt rT tr cT VV) {S nn : Nat} {sn : Int → Int} (hS : P_gS g0 τ0 G S nn nt sn) {B : Nat} {cs : List A_cd} {ad : Int → Nat} (hm : nn = 1) {nv : Int} (h13 : τ0 G 13 = nv) (hnv : 0 ≤ nv ∧ nv ≤ 1) {cst : Int → Int} (hcst : ∀ s, A_isO (nn : Int) s → (G_co nv sn rT VV (A_lows (A_od s) cs) (A_od s) nn) = cst s ∧ 0 ≤ cst s ∧ cst s ≤ 3000) {Le : Nat} {x : Int × Int} (hv : G_bv g0 τ0 g τ G B nn Le sn cT cs ad x) (q : ∀ g' τ' u' Le', u' ≤ u + 8 → G_bv g0 τ0 g' τ' G B nn Le' sn cT cs ad x → P_gw (d + 7) 204 22 [.ref G, .ref Le', P_zl x.1, P_un, P_z ((nn : Nat) : Int), P_z 2, P_un, P_un, P_un, P_un, P_un, P_un, P_un] [] w σ g' τ' (N + 2) u' Q) : P_gw (d + 7) 204 22 [.ref G, .ref Le, P_zl x.1, P_un, P_z ((nn : Nat) : Int), P_z 1, P_un, P_un, P_un, P_un, P_un, P_un, P_un] [] w σ g τ N u Q := by
  obtain ⟨hf, ⟨cs1, hC, hlo, hok⟩, hx, hxO, hLe⟩ := hv
  refine P_gw_lts (fun hlt => ?_)
  refine g_bc1_1 hC.1.1 hm (fun g' τ' u' hx1 hu => ?_)
  have hf' : G_fr G_R5 G_12 g τ g' τ' := G_fr_xt hlt hx1
  refine q g' τ' u' Le hu ⟨G_fr_tr hf hf', ⟨cs1, G_C_xt hlt hx1 hC, hlo, hok⟩, hx, hxO, fun h0 => ?_⟩
  have hL := hLe h0
  exact ⟨(hf' _ _ _ hL.1).1, fun j a b => ((hf' _ _ _ hL.1).2 _ (fun q => by omega) (G_nR5 _ (by omega))).trans (hL.2 j a b)⟩

theorem g_bk1_2 {d : Nat} {w : P_Lw} {σ : P_A} {g : P_Gl} {τ : P_A} {N u : Nat} {Q : P_GQ} {G : Nat} {g0 : P_Gl} {τ0 : P_A} {T nt : Nat} {tt : Int → Nat} {rT : Int → Nat} {tr : Int → Int → Nat} {cT : Int → Nat} {VV : Int → Int → Int → Int} (hT : P_gT g0 τ0 G T nt tt rT tr cT VV) {S nn : Nat} {sn : Int → Int} (hS : P_gS g0 τ0 G S nn nt sn) {B : Nat} {cs : List A_cd} {ad : Int → Nat} (hm : nn = 1) {nv : Int} (h13 : τ0 G 13 = nv) (hnv : 0 ≤ nv ∧ nv ≤ 1) {cst : Int → Int} (hcst : ∀ s, A_isO (nn : Int) s → (G_co nv sn rT VV (A_lows (A_od s) cs) (A_od s) nn) = cst s ∧ 0 ≤ cst s ∧ cst s ≤ 3000) {Le : Nat} {x : Int × Int} (hv : G_bv g0 τ0 g τ G B nn Le sn cT cs ad x) (q : ∀ g' τ' u' Le', u' ≤ u + 8 → G_bv g0 τ0 g' τ' G B nn Le' sn cT cs ad x → P_gw (d + 7) 204 22 [.ref G, .ref Le', P_zl x.1, P_un, P_z ((nn : Nat) : Int), P_z 3, P_un, P_un, P_un, P_un, P_un, P_un, P_un] [] w σ g' τ' (N + 2) u' Q) : P_gw (d + 7) 204 22 [.ref G, .ref Le, P_zl x.1, P_un, P_z ((nn : Nat) : Int), P_z 2, P_un, P_un, P_un, P_un, P_un, P_un, P_un] [] w σ g τ N u Q := by
  obtain ⟨hf, ⟨cs1, hC, hlo, hok⟩, hx, hxO, hLe⟩ := hv
  refine P_gw_lts (fun hlt => ?_)
  refine g_bc1_2 hC.1.1 hm (fun g' τ' u' hx1 hu => ?_)
  have hf' : G_fr G_R5 G_12 g τ g' τ' := G_fr_xt hlt hx1
  refine q g' τ' u' Le hu ⟨G_fr_tr hf hf', ⟨cs1, G_C_xt hlt hx1 hC, hlo, hok⟩, hx, hxO, fun h0 => ?_⟩
  have hL := hLe h0
  exact ⟨(hf' _ _ _ hL.1).1, fun j a b => ((hf' _ _ _ hL.1).2 _ (fun q => by omega) (G_nR5 _ (by omega))).trans (hL.2 j a b)⟩

theorem g_bk1_3 {d : Nat} {w : P_Lw} {σ : P_A} {g : P_Gl} {τ : P_A} {N u : Nat} {Q : P_GQ} {G : Nat} {g0 : P_Gl} {τ0 : P_A} {T nt : Nat} {tt : Int → Nat} {rT : Int → Nat} {tr : Int → Int → Nat} {cT : Int → Nat} {VV : Int → Int → Int → Int} (hT : P_gT g0 τ0 G T nt tt rT tr cT VV) {S nn : Nat} {sn : Int → Int} (hS : P_gS g0 τ0 G S nn nt sn) {B : Nat} {cs : List A_cd} {ad : Int → Nat} (hm : nn = 1) {nv : Int} (h13 : τ0 G 13 = nv) (hnv : 0 ≤ nv ∧ nv ≤ 1) {cst : Int → Int} (hcst : ∀ s, A_isO (nn : Int) s → (G_co nv sn rT VV (A_lows (A_od s) cs) (A_od s) nn) = cst s ∧ 0 ≤ cst s ∧ cst s ≤ 3000) {Le : Nat} {x : Int × Int} (hv : G_bv g0 τ0 g τ G B nn Le sn cT cs ad x) (q : ∀ g' τ' u' Le', u' ≤ u + 8 → G_bv g0 τ0 g' τ' G B nn Le' sn cT cs ad x → P_gw (d + 7) 204 22 [.ref G, .ref Le', P_zl x.1, P_un, P_z ((nn : Nat) : Int), P_z 4, P_un, P_un, P_un, P_un, P_un, P_un, P_un] [] w σ g' τ' (N + 2) u' Q) : P_gw (d + 7) 204 22 [.ref G, .ref Le, P_zl x.1, P_un, P_z ((nn : Nat) : Int), P_z 3, P_un, P_un, P_un, P_un, P_un, P_un, P_un] [] w σ g τ N u Q := by
  obtain ⟨hf, ⟨cs1, hC, hlo, hok⟩, hx, hxO, hLe⟩ := hv
  refine P_gw_lts (fun hlt => ?_)
  refine g_bc1_3 hC.1.1 hm (fun g' τ' u' hx1 hu => ?_)
  have hf' : G_fr G_R5 G_12 g τ g' τ' := G_fr_xt hlt hx1
  refine q g' τ' u' Le hu ⟨G_fr_tr hf hf', ⟨cs1, G_C_xt hlt hx1 hC, hlo, hok⟩, hx, hxO, fun h0 => ?_⟩
  have hL := hLe h0
  exact ⟨(hf' _ _ _ hL.1).1, fun j a b => ((hf' _ _ _ hL.1).2 _ (fun q => by omega) (G_nR5 _ (by omega))).trans (hL.2 j a b)⟩

theorem g_bk1_4 {d : Nat} {w : P_Lw} {σ : P_A} {g : P_Gl} {τ : P_A} {N u : Nat} {Q : P_GQ} {G : Nat} {g0 : P_Gl} {τ0 : P_A} {T nt : Nat} {tt : Int → Nat} {rT : Int → Nat} {tr : Int → Int → Nat} {cT : Int → Nat} {VV : Int → Int → Int → Int} (hT : P_gT g0 τ0 G T nt tt rT tr cT VV) {S nn : Nat} {sn : Int → Int} (hS : P_gS g0 τ0 G S nn nt sn) {B : Nat} {cs : List A_cd} {ad : Int → Nat} (hm : nn = 1) {nv : Int} (h13 : τ0 G 13 = nv) (hnv : 0 ≤ nv ∧ nv ≤ 1) {cst : Int → Int} (hcst : ∀ s, A_isO (nn : Int) s → (G_co nv sn rT VV (A_lows (A_od s) cs) (A_od s) nn) = cst s ∧ 0 ≤ cst s ∧ cst s ≤ 3000) {Le : Nat} {x : Int × Int} (hv : G_bv g0 τ0 g τ G B nn Le sn cT cs ad x) (q : ∀ g' τ' u' Le', u' ≤ u + 8 → G_bv g0 τ0 g' τ' G B nn Le' sn cT cs ad x → P_gw (d + 7) 204 22 [.ref G, .ref Le', P_zl x.1, P_un, P_z ((nn : Nat) : Int), P_z 5, P_un, P_un, P_un, P_un, P_un, P_un, P_un] [] w σ g' τ' (N + 2) u' Q) : P_gw (d + 7) 204 22 [.ref G, .ref Le, P_zl x.1, P_un, P_z ((nn : Nat) : Int), P_z 4, P_un, P_un, P_un, P_un, P_un, P_un, P_un] [] w σ g τ N u Q := by
  obtain ⟨hf, ⟨cs1, hC, hlo, hok⟩, hx, hxO, hLe⟩ := hv
  refine P_gw_lts (fun hlt => ?_)
  refine g_bc1_4 hC.1.1 hm (fun g' τ' u' hx1 hu => ?_)
  have hf' : G_fr G_R5 G_12 g τ g' τ' := G_fr_xt hlt hx1
  refine q g' τ' u' Le hu ⟨G_fr_tr hf hf', ⟨cs1, G_C_xt hlt hx1 hC, hlo, hok⟩, hx, hxO, fun h0 => ?_⟩
  have hL := hLe h0
  exact ⟨(hf' _ _ _ hL.1).1, fun j a b => ((hf' _ _ _ hL.1).2 _ (fun q => by omega) (G_nR5 _ (by omega))).trans (hL.2 j a b)⟩

theorem g_bk1_5 {d : Nat} {w : P_Lw} {σ : P_A} {g : P_Gl} {τ : P_A} {N u : Nat} {Q : P_GQ} {G : Nat} {g0 : P_Gl} {τ0 : P_A} {T nt : Nat} {tt : Int → Nat} {rT : Int → Nat} {tr : Int → Int → Nat} {cT : Int → Nat} {VV : Int → Int → Int → Int} (hT : P_gT g0 τ0 G T nt tt rT tr cT VV) {S nn : Nat} {sn : Int → Int} (hS : P_gS g0 τ0 G S nn nt sn) {B : Nat} {cs : List A_cd} {ad : Int → Nat} (hm : nn = 1) {nv : Int} (h13 : τ0 G 13 = nv) (hnv : 0 ≤ nv ∧ nv ≤ 1) {cst : Int → Int} (hcst : ∀ s, A_isO (nn : Int) s → (G_co nv sn rT VV (A_lows (A_od s) cs) (A_od s) nn) = cst s ∧ 0 ≤ cst s ∧ cst s ≤ 3000) {Le : Nat} {x : Int × Int} (hv : G_bv g0 τ0 g τ G B nn Le sn cT cs ad x) (q : ∀ g' τ' u' Le', u' ≤ u + 8 → G_bv g0 τ0 g' τ' G B nn Le' sn cT cs ad x → P_gw (d + 7) 204 22 [.ref G, .ref Le', P_zl x.1, P_un, P_z ((nn : Nat) : Int), P_z 6, P_un, P_un, P_un, P_un, P_un, P_un, P_un] [] w σ g' τ' (N + 2) u' Q) : P_gw (d + 7) 204 22 [.ref G, .ref Le, P_zl x.1, P_un, P_z ((nn : Nat) : Int), P_z 5, P_un, P_un, P_un, P_un, P_un, P_un, P_un] [] w σ g τ N u Q := by
  obtain ⟨hf, ⟨cs1, hC, hlo, hok⟩, hx, hxO, hLe⟩ := hv
  refine P_gw_lts (fun hlt => ?_)
  refine g_bc1_5 hC.1.1 hm (fun g' τ' u' hx1 hu => ?_)
  have hf' : G_fr G_R5 G_12 g τ g' τ' := G_fr_xt hlt hx1
  refine q g' τ' u' Le hu ⟨G_fr_tr hf hf', ⟨cs1, G_C_xt hlt hx1 hC, hlo, hok⟩, hx, hxO, fun h0 => ?_⟩
  have hL := hLe h0
  exact ⟨(hf' _ _ _ hL.1).1, fun j a b => ((hf' _ _ _ hL.1).2 _ (fun q => by omega) (G_nR5 _ (by omega))).trans (hL.2 j a b)⟩

theorem g_bk1_6 {d : Nat} {w : P_Lw} {σ : P_A} {g : P_Gl} {τ : P_A} {N u : Nat} {Q : P_GQ} {G : Nat} {g0 : P_Gl} {τ0 : P_A} {T nt : Nat} {tt : Int → Nat} {rT : Int → Nat} {tr : Int → Int → Nat} {cT : Int → Nat} {VV : Int → Int → Int → Int} (hT : P_gT g0 τ0 G T nt tt rT tr cT VV) {S nn : Nat} {sn : Int → Int} (hS : P_gS g0 τ0 G S nn nt sn) {B : Nat} {cs : List A_cd} {ad : Int → Nat} (hm : nn = 1) {nv : Int} (h13 : τ0 G 13 = nv) (hnv : 0 ≤ nv ∧ nv ≤ 1) {cst : Int → Int} (hcst : ∀ s, A_isO (nn : Int) s → (G_co nv sn rT VV (A_lows (A_od s) cs) (A_od s) nn) = cst s ∧ 0 ≤ cst s ∧ cst s ≤ 3000) {Le : Nat} {x : Int × Int} (hv : G_bv g0 τ0 g τ G B nn Le sn cT cs ad x) (q : ∀ g' τ' u' Le', u' ≤ u + 8 → G_bv g0 τ0 g' τ' G B nn Le' sn cT cs ad x → P_gw (d + 7) 204 22 [.ref G, .ref Le', P_zl x.1, P_un, P_z ((nn : Nat) : Int), P_z 7, P_un, P_un, P_un, P_un, P_un, P_un, P_un] [] w σ g' τ' (N + 2) u' Q) : P_gw (d + 7) 204 22 [.ref G, .ref Le, P_zl x.1, P_un, P_z ((nn : Nat) : Int), P_z 6, P_un, P_un, P_un, P_un, P_un, P_un, P_un] [] w σ g τ N u Q := by
  obtain ⟨hf, ⟨cs1, hC, hlo, hok⟩, hx, hxO, hLe⟩ := hv
  refine P_gw_lts (fun hlt => ?_)
  refine g_bc1_6 hC.1.1 hm (fun g' τ' u' hx1 hu => ?_)
  have hf' : G_fr G_R5 G_12 g τ g' τ' := G_fr_xt hlt hx1
  refine q g' τ' u' Le hu ⟨G_fr_tr hf hf', ⟨cs1, G_C_xt hlt hx1 hC, hlo, hok⟩, hx, hxO, fun h0 => ?_⟩
  have hL := hLe h0
  exact ⟨(hf' _ _ _ hL.1).1, fun j a b => ((hf' _ _ _ hL.1).2 _ (fun q => by omega) (G_nR5 _ (by omega))).trans (hL.2 j a b)⟩

theorem g_bk1_7 {d : Nat} {w : P_Lw} {σ : P_A} {g : P_Gl} {τ : P_A} {N u : Nat} {Q : P_GQ} {G : Nat} {g0 : P_Gl} {τ0 : P_A} {T nt : Nat} {tt : Int → Nat} {rT : Int → Nat} {tr : Int → Int → Nat} {cT : Int → Nat} {VV : Int → Int → Int → Int} (hT : P_gT g0 τ0 G T nt tt rT tr cT VV) {S nn : Nat} {sn : Int → Int} (hS : P_gS g0 τ0 G S nn nt sn) {B : Nat} {cs : List A_cd} {ad : Int → Nat} (hm : nn = 1) {nv : Int} (h13 : τ0 G 13 = nv) (hnv : 0 ≤ nv ∧ nv ≤ 1) {cst : Int → Int} (hcst : ∀ s, A_isO (nn : Int) s → (G_co nv sn rT VV (A_lows (A_od s) cs) (A_od s) nn) = cst s ∧ 0 ≤ cst s ∧ cst s ≤ 3000) {Le : Nat} {x : Int × Int} (hv : G_bv g0 τ0 g τ G B nn Le sn cT cs ad x) (q : ∀ g' τ' u' Le', u' ≤ u + 8 → G_bv g0 τ0 g' τ' G B nn Le' sn cT cs ad x → P_gw (d + 7) 204 22 [.ref G, .ref Le', P_zl x.1, P_un, P_z ((nn : Nat) : Int), P_z 8, P_un, P_un, P_un, P_un, P_un, P_un, P_un] [] w σ g' τ' (N + 2) u' Q) : P_gw (d + 7) 204 22 [.ref G, .ref Le, P_zl x.1, P_un, P_z ((nn : Nat) : Int), P_z 7, P_un, P_un, P_un, P_un, P_un, P_un, P_un] [] w σ g τ N u Q := by
  obtain ⟨hf, ⟨cs1, hC, hlo, hok⟩, hx, hxO, hLe⟩ := hv
  refine P_gw_lts (fun hlt => ?_)
  refine g_bc1_7 hC.1.1 hm (fun g' τ' u' hx1 hu => ?_)
  have hf' : G_fr G_R5 G_12 g τ g' τ' := G_fr_xt hlt hx1
  refine q g' τ' u' Le hu ⟨G_fr_tr hf hf', ⟨cs1, G_C_xt hlt hx1 hC, hlo, hok⟩, hx, hxO, fun h0 => ?_⟩
  have hL := hLe h0
  exact ⟨(hf' _ _ _ hL.1).1, fun j a b => ((hf' _ _ _ hL.1).2 _ (fun q => by omega) (G_nR5 _ (by omega))).trans (hL.2 j a b)⟩

theorem g_bk1_8 {d : Nat} {w : P_Lw} {σ : P_A} {g : P_Gl} {τ : P_A} {N u : Nat} {Q : P_GQ} {G : Nat} {g0 : P_Gl} {τ0 : P_A} {T nt : Nat} {tt : Int → Nat} {rT : Int → Nat} {tr : Int → Int → Nat} {cT : Int → Nat} {VV : Int → Int → Int → Int} (hT : P_gT g0 τ0 G T nt tt rT tr cT VV) {S nn : Nat} {sn : Int → Int} (hS : P_gS g0 τ0 G S nn nt sn) {B : Nat} {cs : List A_cd} {ad : Int → Nat} (hm : nn = 1) {nv : Int} (h13 : τ0 G 13 = nv) (hnv : 0 ≤ nv ∧ nv ≤ 1) {cst : Int → Int} (hcst : ∀ s, A_isO (nn : Int) s → (G_co nv sn rT VV (A_lows (A_od s) cs) (A_od s) nn) = cst s ∧ 0 ≤ cst s ∧ cst s ≤ 3000) {Le : Nat} {x : Int × Int} (hv : G_bv g0 τ0 g τ G B nn Le sn cT cs ad x) (q : ∀ g' τ' u' Le', u' ≤ u + 8 → G_bv g0 τ0 g' τ' G B nn Le' sn cT cs ad x → P_gw (d + 7) 204 22 [.ref G, .ref Le', P_zl x.1, P_un, P_z ((nn : Nat) : Int), P_z 9, P_un, P_un, P_un, P_un, P_un, P_un, P_un] [] w σ g' τ' (N + 2) u' Q) : P_gw (d + 7) 204 22 [.ref G, .ref Le, P_zl x.1, P_un, P_z ((nn : Nat) : Int), P_z 8, P_un, P_un, P_un, P_un, P_un, P_un, P_un] [] w σ g τ N u Q := by
  obtain ⟨hf, ⟨cs1, hC, hlo, hok⟩, hx, hxO, hLe⟩ := hv
  refine P_gw_lts (fun hlt => ?_)
  refine g_bc1_8 hC.1.1 hm (fun g' τ' u' hx1 hu => ?_)
  have hf' : G_fr G_R5 G_12 g τ g' τ' := G_fr_xt hlt hx1
  refine q g' τ' u' Le hu ⟨G_fr_tr hf hf', ⟨cs1, G_C_xt hlt hx1 hC, hlo, hok⟩, hx, hxO, fun h0 => ?_⟩
  have hL := hLe h0
  exact ⟨(hf' _ _ _ hL.1).1, fun j a b => ((hf' _ _ _ hL.1).2 _ (fun q => by omega) (G_nR5 _ (by omega))).trans (hL.2 j a b)⟩

theorem g_bk1_9 {d : Nat} {w : P_Lw} {σ : P_A} {g : P_Gl} {τ : P_A} {N u : Nat} {Q : P_GQ} {G : Nat} {g0 : P_Gl} {τ0 : P_A} {T nt : Nat} {tt : Int → Nat} {rT : Int → Nat} {tr : Int → Int → Nat} {cT : Int → Nat} {VV : Int → Int → Int → Int} (hT : P_gT g0 τ0 G T nt tt rT tr cT VV) {S nn : Nat} {sn : Int → Int} (hS : P_gS g0 τ0 G S nn nt sn) {B : Nat} {cs : List A_cd} {ad : Int → Nat} (hm : nn = 1) {nv : Int} (h13 : τ0 G 13 = nv) (hnv : 0 ≤ nv ∧ nv ≤ 1) {cst : Int → Int} (hcst : ∀ s, A_isO (nn : Int) s → (G_co nv sn rT VV (A_lows (A_od s) cs) (A_od s) nn) = cst s ∧ 0 ≤ cst s ∧ cst s ≤ 3000) {Le : Nat} {x : Int × Int} (hv : G_bv g0 τ0 g τ G B nn Le sn cT cs ad x) (q : ∀ g' τ' u' Le', u' ≤ u + 8 → G_bv g0 τ0 g' τ' G B nn Le' sn cT cs ad x → P_gw (d + 7) 204 22 [.ref G, .ref Le', P_zl x.1, P_un, P_z ((nn : Nat) : Int), P_z 10, P_un, P_un, P_un, P_un, P_un, P_un, P_un] [] w σ g' τ' (N + 2) u' Q) : P_gw (d + 7) 204 22 [.ref G, .ref Le, P_zl x.1, P_un, P_z ((nn : Nat) : Int), P_z 9, P_un, P_un, P_un, P_un, P_un, P_un, P_un] [] w σ g τ N u Q := by
  obtain ⟨hf, ⟨cs1, hC, hlo, hok⟩, hx, hxO, hLe⟩ := hv
  refine P_gw_lts (fun hlt => ?_)
  refine g_bc1_9 hC.1.1 hm (fun g' τ' u' hx1 hu => ?_)
  have hf' : G_fr G_R5 G_12 g τ g' τ' := G_fr_xt hlt hx1
  refine q g' τ' u' Le hu ⟨G_fr_tr hf hf', ⟨cs1, G_C_xt hlt hx1 hC, hlo, hok⟩, hx, hxO, fun h0 => ?_⟩
  have hL := hLe h0
  exact ⟨(hf' _ _ _ hL.1).1, fun j a b => ((hf' _ _ _ hL.1).2 _ (fun q => by omega) (G_nR5 _ (by omega))).trans (hL.2 j a b)⟩

theorem g_bk1_10 {d : Nat} {w : P_Lw} {σ : P_A} {g : P_Gl} {τ : P_A} {N u : Nat} {Q : P_GQ} {G : Nat} {g0 : P_Gl} {τ0 : P_A} {T nt : Nat} {tt : Int → Nat} {rT : Int → Nat} {tr : Int → Int → Nat} {cT : Int → Nat} {VV : Int → Int → Int → Int} (hT : P_gT g0 τ0 G T nt tt rT tr cT VV) {S nn : Nat} {sn : Int → Int} (hS : P_gS g0 τ0 G S nn nt sn) {B : Nat} {cs : List A_cd} {ad : Int → Nat} (hm : nn = 1) {nv : Int} (h13 : τ0 G 13 = nv) (hnv : 0 ≤ nv ∧ nv ≤ 1) {cst : Int → Int} (hcst : ∀ s, A_isO (nn : Int) s → (G_co nv sn rT VV (A_lows (A_od s) cs) (A_od s) nn) = cst s ∧ 0 ≤ cst s ∧ cst s ≤ 3000) {Le : Nat} {x : Int × Int} (hv : G_bv g0 τ0 g τ G B nn Le sn cT cs ad x) (q : ∀ g' τ' u' Le', u' ≤ u + 8 → G_bv g0 τ0 g' τ' G B nn Le' sn cT cs ad x → P_gw (d + 7) 204 22 [.ref G, .ref Le', P_zl x.1, P_un, P_z ((nn : Nat) : Int), P_z 11, P_un, P_un, P_un, P_un, P_un, P_un, P_un] [] w σ g' τ' (N + 2) u' Q) : P_gw (d + 7) 204 22 [.ref G, .ref Le, P_zl x.1, P_un, P_z ((nn : Nat) : Int), P_z 10, P_un, P_un, P_un, P_un, P_un, P_un, P_un] [] w σ g τ N u Q := by
  obtain ⟨hf, ⟨cs1, hC, hlo, hok⟩, hx, hxO, hLe⟩ := hv
  refine P_gw_lts (fun hlt => ?_)
  refine g_bc1_10 hC.1.1 hm (fun g' τ' u' hx1 hu => ?_)
  have hf' : G_fr G_R5 G_12 g τ g' τ' := G_fr_xt hlt hx1
  refine q g' τ' u' Le hu ⟨G_fr_tr hf hf', ⟨cs1, G_C_xt hlt hx1 hC, hlo, hok⟩, hx, hxO, fun h0 => ?_⟩
  have hL := hLe h0
  exact ⟨(hf' _ _ _ hL.1).1, fun j a b => ((hf' _ _ _ hL.1).2 _ (fun q => by omega) (G_nR5 _ (by omega))).trans (hL.2 j a b)⟩

theorem g_bk1_11 {d : Nat} {w : P_Lw} {σ : P_A} {g : P_Gl} {τ : P_A} {N u : Nat} {Q : P_GQ} {G : Nat} {g0 : P_Gl} {τ0 : P_A} {T nt : Nat} {tt : Int → Nat} {rT : Int → Nat} {tr : Int → Int → Nat} {cT : Int → Nat} {VV : Int → Int → Int → Int} (hT : P_gT g0 τ0 G T nt tt rT tr cT VV) {S nn : Nat} {sn : Int → Int} (hS : P_gS g0 τ0 G S nn nt sn) {B : Nat} {cs : List A_cd} {ad : Int → Nat} (hm : nn = 1) {nv : Int} (h13 : τ0 G 13 = nv) (hnv : 0 ≤ nv ∧ nv ≤ 1) {cst : Int → Int} (hcst : ∀ s, A_isO (nn : Int) s → (G_co nv sn rT VV (A_lows (A_od s) cs) (A_od s) nn) = cst s ∧ 0 ≤ cst s ∧ cst s ≤ 3000) {Le : Nat} {x : Int × Int} (hv : G_bv g0 τ0 g τ G B nn Le sn cT cs ad x) (q : ∀ g' τ' u' Le', u' ≤ u + 8 → G_bv g0 τ0 g' τ' G B nn Le' sn cT cs ad x → P_gw (d + 7) 204 22 [.ref G, .ref Le', P_zl x.1, P_un, P_z ((nn : Nat) : Int), P_z 12, P_un, P_un, P_un, P_un, P_un, P_un, P_un] [] w σ g' τ' (N + 2) u' Q) : P_gw (d + 7) 204 22 [.ref G, .ref Le, P_zl x.1, P_un, P_z ((nn : Nat) : Int), P_z 11, P_un, P_un, P_un, P_un, P_un, P_un, P_un] [] w σ g τ N u Q := by
  obtain ⟨hf, ⟨cs1, hC, hlo, hok⟩, hx, hxO, hLe⟩ := hv
  refine P_gw_lts (fun hlt => ?_)
  refine g_bc1_11 hC.1.1 hm (fun g' τ' u' hx1 hu => ?_)
  have hf' : G_fr G_R5 G_12 g τ g' τ' := G_fr_xt hlt hx1
  refine q g' τ' u' Le hu ⟨G_fr_tr hf hf', ⟨cs1, G_C_xt hlt hx1 hC, hlo, hok⟩, hx, hxO, fun h0 => ?_⟩
  have hL := hLe h0
  exact ⟨(hf' _ _ _ hL.1).1, fun j a b => ((hf' _ _ _ hL.1).2 _ (fun q => by omega) (G_nR5 _ (by omega))).trans (hL.2 j a b)⟩

theorem g_bk1_12 {d : Nat} {w : P_Lw} {σ : P_A} {g : P_Gl} {τ : P_A} {N u : Nat} {Q : P_GQ} {G : Nat} {g0 : P_Gl} {τ0 : P_A} {T nt : Nat} {tt : Int → Nat} {rT : Int → Nat} {tr : Int → Int → Nat} {cT : Int → Nat} {VV : Int → Int → Int → Int} (hT : P_gT g0 τ0 G T nt tt rT tr cT VV) {S nn : Nat} {sn : Int → Int} (hS : P_gS g0 τ0 G S nn nt sn) {B : Nat} {cs : List A_cd} {ad : Int → Nat} (hm : nn = 1) {nv : Int} (h13 : τ0 G 13 = nv) (hnv : 0 ≤ nv ∧ nv ≤ 1) {cst : Int → Int} (hcst : ∀ s, A_isO (nn : Int) s → (G_co nv sn rT VV (A_lows (A_od s) cs) (A_od s) nn) = cst s ∧ 0 ≤ cst s ∧ cst s ≤ 3000) {Le : Nat} {x : Int × Int} (hv : G_bv g0 τ0 g τ G B nn Le sn cT cs ad x) (q : ∀ g' τ' u' Le', u' ≤ u + 8 → G_bv g0 τ0 g' τ' G B nn Le' sn cT cs ad x → P_gw (d + 7) 204 22 [.ref G, .ref Le', P_zl x.1, P_un, P_z ((nn : Nat) : Int), P_z 13, P_un, P_un, P_un, P_un, P_un, P_un, P_un] [] w σ g' τ' (N + 2) u' Q) : P_gw (d + 7) 204 22 [.ref G, .ref Le, P_zl x.1, P_un, P_z ((nn : Nat) : Int), P_z 12, P_un, P_un, P_un, P_un, P_un, P_un, P_un] [] w σ g τ N u Q := by
  obtain ⟨hf, ⟨cs1, hC, hlo, hok⟩, hx, hxO, hLe⟩ := hv
  refine P_gw_lts (fun hlt => ?_)
  refine g_bc1_12 hC.1.1 hm (fun g' τ' u' hx1 hu => ?_)
  have hf' : G_fr G_R5 G_12 g τ g' τ' := G_fr_xt hlt hx1
  refine q g' τ' u' Le hu ⟨G_fr_tr hf hf', ⟨cs1, G_C_xt hlt hx1 hC, hlo, hok⟩, hx, hxO, fun h0 => ?_⟩
  have hL := hLe h0
  exact ⟨(hf' _ _ _ hL.1).1, fun j a b => ((hf' _ _ _ hL.1).2 _ (fun q => by omega) (G_nR5 _ (by omega))).trans (hL.2 j a b)⟩

theorem g_bk1_13 {d : Nat} {w : P_Lw} {σ : P_A} {g : P_Gl} {τ : P_A} {N u : Nat} {Q : P_GQ} {G : Nat} {g0 : P_Gl} {τ0 : P_A} {T nt : Nat} {tt : Int → Nat} {rT : Int → Nat} {tr : Int → Int → Nat} {cT : Int → Nat} {VV : Int → Int → Int → Int} (hT : P_gT g0 τ0 G T nt tt rT tr cT VV) {S nn : Nat} {sn : Int → Int} (hS : P_gS g0 τ0 G S nn nt sn) {B : Nat} {cs : List A_cd} {ad : Int → Nat} (hm : nn = 1) {nv : Int} (h13 : τ0 G 13 = nv) (hnv : 0 ≤ nv ∧ nv ≤ 1) {cst : Int → Int} (hcst : ∀ s, A_isO (nn : Int) s → (G_co nv sn rT VV (A_lows (A_od s) cs) (A_od s) nn) = cst s ∧ 0 ≤ cst s ∧ cst s ≤ 3000) {Le : Nat} {x : Int × Int} (hv : G_bv g0 τ0 g τ G B nn Le sn cT cs ad x) (q : ∀ g' τ' u' Le', u' ≤ u + 8 → G_bv g0 τ0 g' τ' G B nn Le' sn cT cs ad x → P_gw (d + 7) 204 22 [.ref G, .ref Le', P_zl x.1, P_un, P_z ((nn : Nat) : Int), P_z 14, P_un, P_un, P_un, P_un, P_un, P_un, P_un] [] w σ g' τ' (N + 2) u' Q) : P_gw (d + 7) 204 22 [.ref G, .ref Le, P_zl x.1, P_un, P_z ((nn : Nat) : Int), P_z 13, P_un, P_un, P_un, P_un, P_un, P_un, P_un] [] w σ g τ N u Q := by
  obtain ⟨hf, ⟨cs1, hC, hlo, hok⟩, hx, hxO, hLe⟩ := hv
  refine P_gw_lts (fun hlt => ?_)
  refine g_bc1_13 hC.1.1 hm (fun g' τ' u' hx1 hu => ?_)
  have hf' : G_fr G_R5 G_12 g τ g' τ' := G_fr_xt hlt hx1
  refine q g' τ' u' Le hu ⟨G_fr_tr hf hf', ⟨cs1, G_C_xt hlt hx1 hC, hlo, hok⟩, hx, hxO, fun h0 => ?_⟩
  have hL := hLe h0
  exact ⟨(hf' _ _ _ hL.1).1, fun j a b => ((hf' _ _ _ hL.1).2 _ (fun q => by omega) (G_nR5 _ (by omega))).trans (hL.2 j a b)⟩

theorem g_bk1_14 {d : Nat} {w : P_Lw} {σ : P_A} {g : P_Gl} {τ : P_A} {N u : Nat} {Q : P_GQ} {G : Nat} {g0 : P_Gl} {τ0 : P_A} {T nt : Nat} {tt : Int → Nat} {rT : Int → Nat} {tr : Int → Int → Nat} {cT : Int → Nat} {VV : Int → Int → Int → Int} (hT : P_gT g0 τ0 G T nt tt rT tr cT VV) {S nn : Nat} {sn : Int → Int} (hS : P_gS g0 τ0 G S nn nt sn) {B : Nat} {cs : List A_cd} {ad : Int → Nat} (hm : nn = 1) {nv : Int} (h13 : τ0 G 13 = nv) (hnv : 0 ≤ nv ∧ nv ≤ 1) {cst : Int → Int} (hcst : ∀ s, A_isO (nn : Int) s → (G_co nv sn rT VV (A_lows (A_od s) cs) (A_od s) nn) = cst s ∧ 0 ≤ cst s ∧ cst s ≤ 3000) {Le : Nat} {x : Int × Int} (hv : G_bv g0 τ0 g τ G B nn Le sn cT cs ad x) (q : ∀ g' τ' u' Le', u' ≤ u + 8 → G_bv g0 τ0 g' τ' G B nn Le' sn cT cs ad x → P_gw (d + 7) 204 22 [.ref G, .ref Le', P_zl x.1, P_un, P_z ((nn : Nat) : Int), P_z 15, P_un, P_un, P_un, P_un, P_un, P_un, P_un] [] w σ g' τ' (N + 2) u' Q) : P_gw (d + 7) 204 22 [.ref G, .ref Le, P_zl x.1, P_un, P_z ((nn : Nat) : Int), P_z 14, P_un, P_un, P_un, P_un, P_un, P_un, P_un] [] w σ g τ N u Q := by
  obtain ⟨hf, ⟨cs1, hC, hlo, hok⟩, hx, hxO, hLe⟩ := hv
  refine P_gw_lts (fun hlt => ?_)
  refine g_bc1_14 hC.1.1 hm (fun g' τ' u' hx1 hu => ?_)
  have hf' : G_fr G_R5 G_12 g τ g' τ' := G_fr_xt hlt hx1
  refine q g' τ' u' Le hu ⟨G_fr_tr hf hf', ⟨cs1, G_C_xt hlt hx1 hC, hlo, hok⟩, hx, hxO, fun h0 => ?_⟩
  have hL := hLe h0
  exact ⟨(hf' _ _ _ hL.1).1, fun j a b => ((hf' _ _ _ hL.1).2 _ (fun q => by omega) (G_nR5 _ (by omega))).trans (hL.2 j a b)⟩

theorem g_bk1_15 {d : Nat} {w : P_Lw} {σ : P_A} {g : P_Gl} {τ : P_A} {N u : Nat} {Q : P_GQ} {G : Nat} {g0 : P_Gl} {τ0 : P_A} {T nt : Nat} {tt : Int → Nat} {rT : Int → Nat} {tr : Int → Int → Nat} {cT : Int → Nat} {VV : Int → Int → Int → Int} (hT : P_gT g0 τ0 G T nt tt rT tr cT VV) {S nn : Nat} {sn : Int → Int} (hS : P_gS g0 τ0 G S nn nt sn) {B : Nat} {cs : List A_cd} {ad : Int → Nat} (hm : nn = 1) {nv : Int} (h13 : τ0 G 13 = nv) (hnv : 0 ≤ nv ∧ nv ≤ 1) {cst : Int → Int} (hcst : ∀ s, A_isO (nn : Int) s → (G_co nv sn rT VV (A_lows (A_od s) cs) (A_od s) nn) = cst s ∧ 0 ≤ cst s ∧ cst s ≤ 3000) {Le : Nat} {x : Int × Int} (hv : G_bv g0 τ0 g τ G B nn Le sn cT cs ad x) (q : ∀ g' τ' u' Le', u' ≤ u + 8 → G_bv g0 τ0 g' τ' G B nn Le' sn cT cs ad x → P_gw (d + 7) 204 22 [.ref G, .ref Le', P_zl x.1, P_un, P_z ((nn : Nat) : Int), P_z 16, P_un, P_un, P_un, P_un, P_un, P_un, P_un] [] w σ g' τ' (N + 2) u' Q) : P_gw (d + 7) 204 22 [.ref G, .ref Le, P_zl x.1, P_un, P_z ((nn : Nat) : Int), P_z 15, P_un, P_un, P_un, P_un, P_un, P_un, P_un] [] w σ g τ N u Q := by
  obtain ⟨hf, ⟨cs1, hC, hlo, hok⟩, hx, hxO, hLe⟩ := hv
  refine P_gw_lts (fun hlt => ?_)
  refine g_bc1_15 hC.1.1 hm (fun g' τ' u' hx1 hu => ?_)
  have hf' : G_fr G_R5 G_12 g τ g' τ' := G_fr_xt hlt hx1
  refine q g' τ' u' Le hu ⟨G_fr_tr hf hf', ⟨cs1, G_C_xt hlt hx1 hC, hlo, hok⟩, hx, hxO, fun h0 => ?_⟩
  have hL := hLe h0
  exact ⟨(hf' _ _ _ hL.1).1, fun j a b => ((hf' _ _ _ hL.1).2 _ (fun q => by omega) (G_nR5 _ (by omega))).trans (hL.2 j a b)⟩

theorem g_bk1_16 {d : Nat} {w : P_Lw} {σ : P_A} {g : P_Gl} {τ : P_A} {N u : Nat} {Q : P_GQ} {G : Nat} {g0 : P_Gl} {τ0 : P_A} {T nt : Nat} {tt : Int → Nat} {rT : Int → Nat} {tr : Int → Int → Nat} {cT : Int → Nat} {VV : Int → Int → Int → Int} (hT : P_gT g0 τ0 G T nt tt rT tr cT VV) {S nn : Nat} {sn : Int → Int} (hS : P_gS g0 τ0 G S nn nt sn) {B : Nat} {cs : List A_cd} {ad : Int → Nat} (hm : nn = 1) {nv : Int} (h13 : τ0 G 13 = nv) (hnv : 0 ≤ nv ∧ nv ≤ 1) {cst : Int → Int} (hcst : ∀ s, A_isO (nn : Int) s → (G_co nv sn rT VV (A_lows (A_od s) cs) (A_od s) nn) = cst s ∧ 0 ≤ cst s ∧ cst s ≤ 3000) {Le : Nat} {x : Int × Int} (hv : G_bv g0 τ0 g τ G B nn Le sn cT cs ad x) (q : ∀ g' τ' u' Le', u' ≤ u + 8 → G_bv g0 τ0 g' τ' G B nn Le' sn cT cs ad x → P_gw (d + 7) 204 22 [.ref G, .ref Le', P_zl x.1, P_un, P_z ((nn : Nat) : Int), P_z 17, P_un, P_un, P_un, P_un, P_un, P_un, P_un] [] w σ g' τ' (N + 2) u' Q) : P_gw (d + 7) 204 22 [.ref G, .ref Le, P_zl x.1, P_un, P_z ((nn : Nat) : Int), P_z 16, P_un, P_un, P_un, P_un, P_un, P_un, P_un] [] w σ g τ N u Q := by
  obtain ⟨hf, ⟨cs1, hC, hlo, hok⟩, hx, hxO, hLe⟩ := hv
  refine P_gw_lts (fun hlt => ?_)
  refine g_bc1_16 hC.1.1 hm (fun g' τ' u' hx1 hu => ?_)
  have hf' : G_fr G_R5 G_12 g τ g' τ' := G_fr_xt hlt hx1
  refine q g' τ' u' Le hu ⟨G_fr_tr hf hf', ⟨cs1, G_C_xt hlt hx1 hC, hlo, hok⟩, hx, hxO, fun h0 => ?_⟩
  have hL := hLe h0
  exact ⟨(hf' _ _ _ hL.1).1, fun j a b => ((hf' _ _ _ hL.1).2 _ (fun q => by omega) (G_nR5 _ (by omega))).trans (hL.2 j a b)⟩

theorem g_bk1_17 {d : Nat} {w : P_Lw} {σ : P_A} {g : P_Gl} {τ : P_A} {N u : Nat} {Q : P_GQ} {G : Nat} {g0 : P_Gl} {τ0 : P_A} {T nt : Nat} {tt : Int → Nat} {rT : Int → Nat} {tr : Int → Int → Nat} {cT : Int → Nat} {VV : Int → Int → Int → Int} (hT : P_gT g0 τ0 G T nt tt rT tr cT VV) {S nn : Nat} {sn : Int → Int} (hS : P_gS g0 τ0 G S nn nt sn) {B : Nat} {cs : List A_cd} {ad : Int → Nat} (hm : nn = 1) {nv : Int} (h13 : τ0 G 13 = nv) (hnv : 0 ≤ nv ∧ nv ≤ 1) {cst : Int → Int} (hcst : ∀ s, A_isO (nn : Int) s → (G_co nv sn rT VV (A_lows (A_od s) cs) (A_od s) nn) = cst s ∧ 0 ≤ cst s ∧ cst s ≤ 3000) {Le : Nat} {x : Int × Int} (hv : G_bv g0 τ0 g τ G B nn Le sn cT cs ad x) (q : ∀ g' τ' u' Le', u' ≤ u + 8 → G_bv g0 τ0 g' τ' G B nn Le' sn cT cs ad x → P_gw (d + 7) 204 22 [.ref G, .ref Le', P_zl x.1, P_un, P_z ((nn : Nat) : Int), P_z 18, P_un, P_un, P_un, P_un, P_un, P_un, P_un] [] w σ g' τ' (N + 2) u' Q) : P_gw (d + 7) 204 22 [.ref G, .ref Le, P_zl x.1, P_un, P_z ((nn : Nat) : Int), P_z 17, P_un, P_un, P_un, P_un, P_un, P_un, P_un] [] w σ g τ N u Q := by
  obtain ⟨hf, ⟨cs1, hC, hlo, hok⟩, hx, hxO, hLe⟩ := hv
  refine P_gw_lts (fun hlt => ?_)
  refine g_bc1_17 hC.1.1 hm (fun g' τ' u' hx1 hu => ?_)
  have hf' : G_fr G_R5 G_12 g τ g' τ' := G_fr_xt hlt hx1
  refine q g' τ' u' Le hu ⟨G_fr_tr hf hf', ⟨cs1, G_C_xt hlt hx1 hC, hlo, hok⟩, hx, hxO, fun h0 => ?_⟩
  have hL := hLe h0
  exact ⟨(hf' _ _ _ hL.1).1, fun j a b => ((hf' _ _ _ hL.1).2 _ (fun q => by omega) (G_nR5 _ (by omega))).trans (hL.2 j a b)⟩

theorem g_bk1_18 {d : Nat} {w : P_Lw} {σ : P_A} {g : P_Gl} {τ : P_A} {N u : Nat} {Q : P_GQ} {G : Nat} {g0 : P_Gl} {τ0 : P_A} {T nt : Nat} {tt : Int → Nat} {rT : Int → Nat} {tr : Int → Int → Nat} {cT : Int → Nat} {VV : Int → Int → Int → Int} (hT : P_gT g0 τ0 G T nt tt rT tr cT VV) {S nn : Nat} {sn : Int → Int} (hS : P_gS g0 τ0 G S nn nt sn) {B : Nat} {cs : List A_cd} {ad : Int → Nat} (hm : nn = 1) {nv : Int} (h13 : τ0 G 13 = nv) (hnv : 0 ≤ nv ∧ nv ≤ 1) {cst : Int → Int} (hcst : ∀ s, A_isO (nn : Int) s → (G_co nv sn rT VV (A_lows (A_od s) cs) (A_od s) nn) = cst s ∧ 0 ≤ cst s ∧ cst s ≤ 3000) {Le : Nat} {x : Int × Int} (hv : G_bv g0 τ0 g τ G B nn Le sn cT cs ad x) (q : ∀ g' τ' u' Le', u' ≤ u + 8 → G_bv g0 τ0 g' τ' G B nn Le' sn cT cs ad x → P_gw (d + 7) 204 22 [.ref G, .ref Le', P_zl x.1, P_un, P_z ((nn : Nat) : Int), P_z 19, P_un, P_un, P_un, P_un, P_un, P_un, P_un] [] w σ g' τ' (N + 2) u' Q) : P_gw (d + 7) 204 22 [.ref G, .ref Le, P_zl x.1, P_un, P_z ((nn : Nat) : Int), P_z 18, P_un, P_un, P_un, P_un, P_un, P_un, P_un] [] w σ g τ N u Q := by
  obtain ⟨hf, ⟨cs1, hC, hlo, hok⟩, hx, hxO, hLe⟩ := hv
  refine P_gw_lts (fun hlt => ?_)
  refine g_bc1_18 hC.1.1 hm (fun g' τ' u' hx1 hu => ?_)
  have hf' : G_fr G_R5 G_12 g τ g' τ' := G_fr_xt hlt hx1
  refine q g' τ' u' Le hu ⟨G_fr_tr hf hf', ⟨cs1, G_C_xt hlt hx1 hC, hlo, hok⟩, hx, hxO, fun h0 => ?_⟩
  have hL := hLe h0
  exact ⟨(hf' _ _ _ hL.1).1, fun j a b => ((hf' _ _ _ hL.1).2 _ (fun q => by omega) (G_nR5 _ (by omega))).trans (hL.2 j a b)⟩

theorem g_bk1_19 {d : Nat} {w : P_Lw} {σ : P_A} {g : P_Gl} {τ : P_A} {N u : Nat} {Q : P_GQ} {G : Nat} {g0 : P_Gl} {τ0 : P_A} {T nt : Nat} {tt : Int → Nat} {rT : Int → Nat} {tr : Int → Int → Nat} {cT : Int → Nat} {VV : Int → Int → Int → Int} (hT : P_gT g0 τ0 G T nt tt rT tr cT VV) {S nn : Nat} {sn : Int → Int} (hS : P_gS g0 τ0 G S nn nt sn) {B : Nat} {cs : List A_cd} {ad : Int → Nat} (hm : nn = 1) {nv : Int} (h13 : τ0 G 13 = nv) (hnv : 0 ≤ nv ∧ nv ≤ 1) {cst : Int → Int} (hcst : ∀ s, A_isO (nn : Int) s → (G_co nv sn rT VV (A_lows (A_od s) cs) (A_od s) nn) = cst s ∧ 0 ≤ cst s ∧ cst s ≤ 3000) {Le : Nat} {x : Int × Int} (hv : G_bv g0 τ0 g τ G B nn Le sn cT cs ad x) (q : ∀ g' τ' u' Le', u' ≤ u + 8 → G_bv g0 τ0 g' τ' G B nn Le' sn cT cs ad x → P_gw (d + 7) 204 22 [.ref G, .ref Le', P_zl x.1, P_un, P_z ((nn : Nat) : Int), P_z 20, P_un, P_un, P_un, P_un, P_un, P_un, P_un] [] w σ g' τ' (N + 2) u' Q) : P_gw (d + 7) 204 22 [.ref G, .ref Le, P_zl x.1, P_un, P_z ((nn : Nat) : Int), P_z 19, P_un, P_un, P_un, P_un, P_un, P_un, P_un] [] w σ g τ N u Q := by
  obtain ⟨hf, ⟨cs1, hC, hlo, hok⟩, hx, hxO, hLe⟩ := hv
  refine P_gw_lts (fun hlt => ?_)
  refine g_bc1_19 hC.1.1 hm (fun g' τ' u' hx1 hu => ?_)
  have hf' : G_fr G_R5 G_12 g τ g' τ' := G_fr_xt hlt hx1
  refine q g' τ' u' Le hu ⟨G_fr_tr hf hf', ⟨cs1, G_C_xt hlt hx1 hC, hlo, hok⟩, hx, hxO, fun h0 => ?_⟩
  have hL := hLe h0
  exact ⟨(hf' _ _ _ hL.1).1, fun j a b => ((hf' _ _ _ hL.1).2 _ (fun q => by omega) (G_nR5 _ (by omega))).trans (hL.2 j a b)⟩

theorem g_bk1_20 {d : Nat} {w : P_Lw} {σ : P_A} {g : P_Gl} {τ : P_A} {N u : Nat} {Q : P_GQ} {G : Nat} {g0 : P_Gl} {τ0 : P_A} {T nt : Nat} {tt : Int → Nat} {rT : Int → Nat} {tr : Int → Int → Nat} {cT : Int → Nat} {VV : Int → Int → Int → Int} (hT : P_gT g0 τ0 G T nt tt rT tr cT VV) {S nn : Nat} {sn : Int → Int} (hS : P_gS g0 τ0 G S nn nt sn) {B : Nat} {cs : List A_cd} {ad : Int → Nat} (hm : nn = 1) {nv : Int} (h13 : τ0 G 13 = nv) (hnv : 0 ≤ nv ∧ nv ≤ 1) {cst : Int → Int} (hcst : ∀ s, A_isO (nn : Int) s → (G_co nv sn rT VV (A_lows (A_od s) cs) (A_od s) nn) = cst s ∧ 0 ≤ cst s ∧ cst s ≤ 3000) {Le : Nat} {x : Int × Int} (hv : G_bv g0 τ0 g τ G B nn Le sn cT cs ad x) (q : ∀ g' τ' u' Le', u' ≤ u + 8 → G_bv g0 τ0 g' τ' G B nn Le' sn cT cs ad x → P_gw (d + 7) 204 22 [.ref G, .ref Le', P_zl x.1, P_un, P_z ((nn : Nat) : Int), P_z 21, P_un, P_un, P_un, P_un, P_un, P_un, P_un] [] w σ g' τ' (N + 2) u' Q) : P_gw (d + 7) 204 22 [.ref G, .ref Le, P_zl x.1, P_un, P_z ((nn : Nat) : Int), P_z 20, P_un, P_un, P_un, P_un, P_un, P_un, P_un] [] w σ g τ N u Q := by
  obtain ⟨hf, ⟨cs1, hC, hlo, hok⟩, hx, hxO, hLe⟩ := hv
  refine P_gw_lts (fun hlt => ?_)
  refine g_bc1_20 hC.1.1 hm (fun g' τ' u' hx1 hu => ?_)
  have hf' : G_fr G_R5 G_12 g τ g' τ' := G_fr_xt hlt hx1
  refine q g' τ' u' Le hu ⟨G_fr_tr hf hf', ⟨cs1, G_C_xt hlt hx1 hC, hlo, hok⟩, hx, hxO, fun h0 => ?_⟩
  have hL := hLe h0
  exact ⟨(hf' _ _ _ hL.1).1, fun j a b => ((hf' _ _ _ hL.1).2 _ (fun q => by omega) (G_nR5 _ (by omega))).trans (hL.2 j a b)⟩

theorem g_bk1_21 {d : Nat} {w : P_Lw} {σ : P_A} {g : P_Gl} {τ : P_A} {N u : Nat} {Q : P_GQ} {G : Nat} {g0 : P_Gl} {τ0 : P_A} {T nt : Nat} {tt : Int → Nat} {rT : Int → Nat} {tr : Int → Int → Nat} {cT : Int → Nat} {VV : Int → Int → Int → Int} (hT : P_gT g0 τ0 G T nt tt rT tr cT VV) {S nn : Nat} {sn : Int → Int} (hS : P_gS g0 τ0 G S nn nt sn) {B : Nat} {cs : List A_cd} {ad : Int → Nat} (hm : nn = 1) {nv : Int} (h13 : τ0 G 13 = nv) (hnv : 0 ≤ nv ∧ nv ≤ 1) {cst : Int → Int} (hcst : ∀ s, A_isO (nn : Int) s → (G_co nv sn rT VV (A_lows (A_od s) cs) (A_od s) nn) = cst s ∧ 0 ≤ cst s ∧ cst s ≤ 3000) {Le : Nat} {x : Int × Int} (hv : G_bv g0 τ0 g τ G B nn Le sn cT cs ad x) (q : ∀ g' τ' u' Le', u' ≤ u + 8 → G_bv g0 τ0 g' τ' G B nn Le' sn cT cs ad x → P_gw (d + 7) 204 22 [.ref G, .ref Le', P_zl x.1, P_un, P_z ((nn : Nat) : Int), P_z 22, P_un, P_un, P_un, P_un, P_un, P_un, P_un] [] w σ g' τ' (N + 2) u' Q) : P_gw (d + 7) 204 22 [.ref G, .ref Le, P_zl x.1, P_un, P_z ((nn : Nat) : Int), P_z 21, P_un, P_un, P_un, P_un, P_un, P_un, P_un] [] w σ g τ N u Q := by
  obtain ⟨hf, ⟨cs1, hC, hlo, hok⟩, hx, hxO, hLe⟩ := hv
  refine P_gw_lts (fun hlt => ?_)
  refine g_bc1_21 hC.1.1 hm (fun g' τ' u' hx1 hu => ?_)
  have hf' : G_fr G_R5 G_12 g τ g' τ' := G_fr_xt hlt hx1
  refine q g' τ' u' Le hu ⟨G_fr_tr hf hf', ⟨cs1, G_C_xt hlt hx1 hC, hlo, hok⟩, hx, hxO, fun h0 => ?_⟩
  have hL := hLe h0
  exact ⟨(hf' _ _ _ hL.1).1, fun j a b => ((hf' _ _ _ hL.1).2 _ (fun q => by omega) (G_nR5 _ (by omega))).trans (hL.2 j a b)⟩

theorem g_bk1_22 {d : Nat} {w : P_Lw} {σ : P_A} {g : P_Gl} {τ : P_A} {N u : Nat} {Q : P_GQ} {G : Nat} {g0 : P_Gl} {τ0 : P_A} {T nt : Nat} {tt : Int → Nat} {rT : Int → Nat} {tr : Int → Int → Nat} {cT : Int → Nat} {VV : Int → Int → Int → Int} (hT : P_gT g0 τ0 G T nt tt rT tr cT VV) {S nn : Nat} {sn : Int → Int} (hS : P_gS g0 τ0 G S nn nt sn) {B : Nat} {cs : List A_cd} {ad : Int → Nat} (hm : nn = 1) {nv : Int} (h13 : τ0 G 13 = nv) (hnv : 0 ≤ nv ∧ nv ≤ 1) {cst : Int → Int} (hcst : ∀ s, A_isO (nn : Int) s → (G_co nv sn rT VV (A_lows (A_od s) cs) (A_od s) nn) = cst s ∧ 0 ≤ cst s ∧ cst s ≤ 3000) {Le : Nat} {x : Int × Int} (hv : G_bv g0 τ0 g τ G B nn Le sn cT cs ad x) (q : ∀ g' τ' u' Le', u' ≤ u + 8 → G_bv g0 τ0 g' τ' G B nn Le' sn cT cs ad x → P_gw (d + 7) 204 22 [.ref G, .ref Le', P_zl x.1, P_un, P_z ((nn : Nat) : Int), P_z 23, P_un, P_un, P_un, P_un, P_un, P_un, P_un] [] w σ g' τ' (N + 2) u' Q) : P_gw (d + 7) 204 22 [.ref G, .ref Le, P_zl x.1, P_un, P_z ((nn : Nat) : Int), P_z 22, P_un, P_un, P_un, P_un, P_un, P_un, P_un] [] w σ g τ N u Q := by
  obtain ⟨hf, ⟨cs1, hC, hlo, hok⟩, hx, hxO, hLe⟩ := hv
  refine P_gw_lts (fun hlt => ?_)
  refine g_bc1_22 hC.1.1 hm (fun g' τ' u' hx1 hu => ?_)
  have hf' : G_fr G_R5 G_12 g τ g' τ' := G_fr_xt hlt hx1
  refine q g' τ' u' Le hu ⟨G_fr_tr hf hf', ⟨cs1, G_C_xt hlt hx1 hC, hlo, hok⟩, hx, hxO, fun h0 => ?_⟩
  have hL := hLe h0
  exact ⟨(hf' _ _ _ hL.1).1, fun j a b => ((hf' _ _ _ hL.1).2 _ (fun q => by omega) (G_nR5 _ (by omega))).trans (hL.2 j a b)⟩

theorem g_bk1_23 {d : Nat} {w : P_Lw} {σ : P_A} {g : P_Gl} {τ : P_A} {N u : Nat} {Q : P_GQ} {G : Nat} {g0 : P_Gl} {τ0 : P_A} {T nt : Nat} {tt : Int → Nat} {rT : Int → Nat} {tr : Int → Int → Nat} {cT : Int → Nat} {VV : Int → Int → Int → Int} (hT : P_gT g0 τ0 G T nt tt rT tr cT VV) {S nn : Nat} {sn : Int → Int} (hS : P_gS g0 τ0 G S nn nt sn) {B : Nat} {cs : List A_cd} {ad : Int → Nat} (hm : nn = 1) {nv : Int} (h13 : τ0 G 13 = nv) (hnv : 0 ≤ nv ∧ nv ≤ 1) {cst : Int → Int} (hcst : ∀ s, A_isO (nn : Int) s → (G_co nv sn rT VV (A_lows (A_od s) cs) (A_od s) nn) = cst s ∧ 0 ≤ cst s ∧ cst s ≤ 3000) {Le : Nat} {x : Int × Int} (hv : G_bv g0 τ0 g τ G B nn Le sn cT cs ad x) (q : ∀ g' τ' u' Le', u' ≤ u + 8 → G_bv g0 τ0 g' τ' G B nn Le' sn cT cs ad x → P_gw (d + 7) 204 22 [.ref G, .ref Le', P_zl x.1, P_un, P_z ((nn : Nat) : Int), P_z 24, P_un, P_un, P_un, P_un, P_un, P_un, P_un] [] w σ g' τ' (N + 2) u' Q) : P_gw (d + 7) 204 22 [.ref G, .ref Le, P_zl x.1, P_un, P_z ((nn : Nat) : Int), P_z 23, P_un, P_un, P_un, P_un, P_un, P_un, P_un] [] w σ g τ N u Q := by
  obtain ⟨hf, ⟨cs1, hC, hlo, hok⟩, hx, hxO, hLe⟩ := hv
  refine P_gw_lts (fun hlt => ?_)
  refine g_bc1_23 hC.1.1 hm (fun g' τ' u' hx1 hu => ?_)
  have hf' : G_fr G_R5 G_12 g τ g' τ' := G_fr_xt hlt hx1
  refine q g' τ' u' Le hu ⟨G_fr_tr hf hf', ⟨cs1, G_C_xt hlt hx1 hC, hlo, hok⟩, hx, hxO, fun h0 => ?_⟩
  have hL := hLe h0
  exact ⟨(hf' _ _ _ hL.1).1, fun j a b => ((hf' _ _ _ hL.1).2 _ (fun q => by omega) (G_nR5 _ (by omega))).trans (hL.2 j a b)⟩

theorem g_bk1_24 {d : Nat} {w : P_Lw} {σ : P_A} {g : P_Gl} {τ : P_A} {N u : Nat} {Q : P_GQ} {G : Nat} {g0 : P_Gl} {τ0 : P_A} {T nt : Nat} {tt : Int → Nat} {rT : Int → Nat} {tr : Int → Int → Nat} {cT : Int → Nat} {VV : Int → Int → Int → Int} (hT : P_gT g0 τ0 G T nt tt rT tr cT VV) {S nn : Nat} {sn : Int → Int} (hS : P_gS g0 τ0 G S nn nt sn) {B : Nat} {cs : List A_cd} {ad : Int → Nat} (hm : nn = 1) {nv : Int} (h13 : τ0 G 13 = nv) (hnv : 0 ≤ nv ∧ nv ≤ 1) {cst : Int → Int} (hcst : ∀ s, A_isO (nn : Int) s → (G_co nv sn rT VV (A_lows (A_od s) cs) (A_od s) nn) = cst s ∧ 0 ≤ cst s ∧ cst s ≤ 3000) {Le : Nat} {x : Int × Int} (hv : G_bv g0 τ0 g τ G B nn Le sn cT cs ad x) (q : ∀ g' τ' u' Le', u' ≤ u + 8 → G_bv g0 τ0 g' τ' G B nn Le' sn cT cs ad x → P_gw (d + 7) 204 22 [.ref G, .ref Le', P_zl x.1, P_un, P_z ((nn : Nat) : Int), P_z 25, P_un, P_un, P_un, P_un, P_un, P_un, P_un] [] w σ g' τ' (N + 2) u' Q) : P_gw (d + 7) 204 22 [.ref G, .ref Le, P_zl x.1, P_un, P_z ((nn : Nat) : Int), P_z 24, P_un, P_un, P_un, P_un, P_un, P_un, P_un] [] w σ g τ N u Q := by
  obtain ⟨hf, ⟨cs1, hC, hlo, hok⟩, hx, hxO, hLe⟩ := hv
  refine P_gw_lts (fun hlt => ?_)
  refine g_bc1_24 hC.1.1 hm (fun g' τ' u' hx1 hu => ?_)
  have hf' : G_fr G_R5 G_12 g τ g' τ' := G_fr_xt hlt hx1
  refine q g' τ' u' Le hu ⟨G_fr_tr hf hf', ⟨cs1, G_C_xt hlt hx1 hC, hlo, hok⟩, hx, hxO, fun h0 => ?_⟩
  have hL := hLe h0
  exact ⟨(hf' _ _ _ hL.1).1, fun j a b => ((hf' _ _ _ hL.1).2 _ (fun q => by omega) (G_nR5 _ (by omega))).trans (hL.2 j a b)⟩

theorem g_bk1_25 {d : Nat} {w : P_Lw} {σ : P_A} {g : P_Gl} {τ : P_A} {N u : Nat} {Q : P_GQ} {G : Nat} {g0 : P_Gl} {τ0 : P_A} {T nt : Nat} {tt : Int → Nat} {rT : Int → Nat} {tr : Int → Int → Nat} {cT : Int → Nat} {VV : Int → Int → Int → Int} (hT : P_gT g0 τ0 G T nt tt rT tr cT VV) {S nn : Nat} {sn : Int → Int} (hS : P_gS g0 τ0 G S nn nt sn) {B : Nat} {cs : List A_cd} {ad : Int → Nat} (hm : nn = 1) {nv : Int} (h13 : τ0 G 13 = nv) (hnv : 0 ≤ nv ∧ nv ≤ 1) {cst : Int → Int} (hcst : ∀ s, A_isO (nn : Int) s → (G_co nv sn rT VV (A_lows (A_od s) cs) (A_od s) nn) = cst s ∧ 0 ≤ cst s ∧ cst s ≤ 3000) {Le : Nat} {x : Int × Int} (hv : G_bv g0 τ0 g τ G B nn Le sn cT cs ad x) (q : ∀ g' τ' u' Le', u' ≤ u + 8 → G_bv g0 τ0 g' τ' G B nn Le' sn cT cs ad x → P_gw (d + 7) 204 22 [.ref G, .ref Le', P_zl x.1, P_un, P_z ((nn : Nat) : Int), P_z 26, P_un, P_un, P_un, P_un, P_un, P_un, P_un] [] w σ g' τ' (N + 2) u' Q) : P_gw (d + 7) 204 22 [.ref G, .ref Le, P_zl x.1, P_un, P_z ((nn : Nat) : Int), P_z 25, P_un, P_un, P_un, P_un, P_un, P_un, P_un] [] w σ g τ N u Q := by
  obtain ⟨hf, ⟨cs1, hC, hlo, hok⟩, hx, hxO, hLe⟩ := hv
  refine P_gw_lts (fun hlt => ?_)
  refine g_bc1_25 hC.1.1 hm (fun g' τ' u' hx1 hu => ?_)
  have hf' : G_fr G_R5 G_12 g τ g' τ' := G_fr_xt hlt hx1
  refine q g' τ' u' Le hu ⟨G_fr_tr hf hf', ⟨cs1, G_C_xt hlt hx1 hC, hlo, hok⟩, hx, hxO, fun h0 => ?_⟩
  have hL := hLe h0
  exact ⟨(hf' _ _ _ hL.1).1, fun j a b => ((hf' _ _ _ hL.1).2 _ (fun q => by omega) (G_nR5 _ (by omega))).trans (hL.2 j a b)⟩

theorem g_bk1_26 {d : Nat} {w : P_Lw} {σ : P_A} {g : P_Gl} {τ : P_A} {N u : Nat} {Q : P_GQ} {G : Nat} {g0 : P_Gl} {τ0 : P_A} {T nt : Nat} {tt : Int → Nat} {rT : Int → Nat} {tr : Int → Int → Nat} {cT : Int → Nat} {VV : Int → Int → Int → Int} (hT : P_gT g0 τ0 G T nt tt rT tr cT VV) {S nn : Nat} {sn : Int → Int} (hS : P_gS g0 τ0 G S nn nt sn) {B : Nat} {cs : List A_cd} {ad : Int → Nat} (hm : nn = 1) {nv : Int} (h13 : τ0 G 13 = nv) (hnv : 0 ≤ nv ∧ nv ≤ 1) {cst : Int → Int} (hcst : ∀ s, A_isO (nn : Int) s → (G_co nv sn rT VV (A_lows (A_od s) cs) (A_od s) nn) = cst s ∧ 0 ≤ cst s ∧ cst s ≤ 3000) {Le : Nat} {x : Int × Int} (hv : G_bv g0 τ0 g τ G B nn Le sn cT cs ad x) (q : ∀ g' τ' u' Le', u' ≤ u + 8 → G_bv g0 τ0 g' τ' G B nn Le' sn cT cs ad x → P_gw (d + 7) 204 22 [.ref G, .ref Le', P_zl x.1, P_un, P_z ((nn : Nat) : Int), P_z 27, P_un, P_un, P_un, P_un, P_un, P_un, P_un] [] w σ g' τ' (N + 2) u' Q) : P_gw (d + 7) 204 22 [.ref G, .ref Le, P_zl x.1, P_un, P_z ((nn : Nat) : Int), P_z 26, P_un, P_un, P_un, P_un, P_un, P_un, P_un] [] w σ g τ N u Q := by
  obtain ⟨hf, ⟨cs1, hC, hlo, hok⟩, hx, hxO, hLe⟩ := hv
  refine P_gw_lts (fun hlt => ?_)
  refine g_bc1_26 hC.1.1 hm (fun g' τ' u' hx1 hu => ?_)
  have hf' : G_fr G_R5 G_12 g τ g' τ' := G_fr_xt hlt hx1
  refine q g' τ' u' Le hu ⟨G_fr_tr hf hf', ⟨cs1, G_C_xt hlt hx1 hC, hlo, hok⟩, hx, hxO, fun h0 => ?_⟩
  have hL := hLe h0
  exact ⟨(hf' _ _ _ hL.1).1, fun j a b => ((hf' _ _ _ hL.1).2 _ (fun q => by omega) (G_nR5 _ (by omega))).trans (hL.2 j a b)⟩

theorem g_bk2_0 {d : Nat} {w : P_Lw} {σ : P_A} {g : P_Gl} {τ : P_A} {N u : Nat} {Q : P_GQ} {G : Nat} {g0 : P_Gl} {τ0 : P_A} {T nt : Nat} {tt : Int → Nat} {rT : Int → Nat} {tr : Int → Int → Nat} {cT : Int → Nat} {VV : Int → Int → Int → Int} (hT : P_gT g0 τ0 G T nt tt rT tr cT VV) {S nn : Nat} {sn : Int → Int} (hS : P_gS g0 τ0 G S nn nt sn) {B : Nat} {cs : List A_cd} {ad : Int → Nat} (hm : nn = 2) {nv : Int} (h13 : τ0 G 13 = nv) (hnv : 0 ≤ nv ∧ nv ≤ 1) {cst : Int → Int} (hcst : ∀ s, A_isO (nn : Int) s → (G_co nv sn rT VV (A_lows (A_od s) cs) (A_od s) nn) = cst s ∧ 0 ≤ cst s ∧ cst s ≤ 3000) {Le : Nat} {x : Int × Int} (hv : G_bv g0 τ0 g τ G B nn Le sn cT cs ad x) (q : ∀ g' τ' u' Le', u' ≤ u + 8 → G_bv g0 τ0 g' τ' G B nn Le' sn cT cs ad x → P_gw (d + 7) 204 22 [.ref G, .ref Le', P_zl x.1, P_un, P_z ((nn : Nat) : Int), P_z 1, P_un, P_un, P_un, P_un, P_un, P_un, P_un] [] w σ g' τ' (N + 2) u' Q) : P_gw (d + 7) 204 22 [.ref G, .ref Le, P_zl x.1, P_un, P_z ((nn : Nat) : Int), P_z 0, P_un, P_un, P_un, P_un, P_un, P_un, P_un] [] w σ g τ N u Q := by
  obtain ⟨hf, ⟨cs1, hC, hlo, hok⟩, hx, hxO, hLe⟩ := hv
  refine P_gw_lts (fun hlt => ?_)
  refine g_bc2_0 hC.1.1 hm (fun g' τ' u' hx1 hu => ?_)
  have hf' : G_fr G_R5 G_12 g τ g' τ' := G_fr_xt hlt hx1
  refine q g' τ' u' Le hu ⟨G_fr_tr hf hf', ⟨cs1, G_C_xt hlt hx1 hC, hlo, hok⟩, hx, hxO, fun h0 => ?_⟩
  have hL := hLe h0
  exact ⟨(hf' _ _ _ hL.1).1, fun j a b => ((hf' _ _ _ hL.1).2 _ (fun q => by omega) (G_nR5 _ (by omega))).trans (hL.2 j a b)⟩

theorem g_bk2_1 {d : Nat} {w : P_Lw} {σ : P_A} {g : P_Gl} {τ : P_A} {N u : Nat} {Q : P_GQ} {G : Nat} {g0 : P_Gl} {τ0 : P_A} {T nt : Nat} {tt : Int → Nat} {rT : Int → Nat} {tr : Int → Int → Nat} {cT : Int → Nat} {VV : Int → Int → Int → Int} (hT : P_gT g0 τ0 G T nt tt rT tr cT VV) {S nn : Nat} {sn : Int → Int} (hS : P_gS g0 τ0 G S nn nt sn) {B : Nat} {cs : List A_cd} {ad : Int → Nat} (hm : nn = 2) {nv : Int} (h13 : τ0 G 13 = nv) (hnv : 0 ≤ nv ∧ nv ≤ 1) {cst : Int → Int} (hcst : ∀ s, A_isO (nn : Int) s → (G_co nv sn rT VV (A_lows (A_od s) cs) (A_od s) nn) = cst s ∧ 0 ≤ cst s ∧ cst s ≤ 3000) {Le : Nat} {x : Int × Int} (hv : G_bv g0 τ0 g τ G B nn Le sn cT cs ad x) (q : ∀ g' τ' u' Le', u' ≤ u + 8 → G_bv g0 τ0 g' τ' G B nn Le' sn cT cs ad x → P_gw (d + 7) 204 22 [.ref G, .ref Le', P_zl x.1, P_un, P_z ((nn : Nat) : Int), P_z 2, P_un, P_un, P_un, P_un, P_un, P_un, P_un] [] w σ g' τ' (N + 2) u' Q) : P_gw (d + 7) 204 22 [.ref G, .ref Le, P_zl x.1, P_un, P_z ((nn : Nat) : Int), P_z 1, P_un, P_un, P_un, P_un, P_un, P_un, P_un] [] w σ g τ N u Q := by
  obtain ⟨hf, ⟨cs1, hC, hlo, hok⟩, hx, hxO, hLe⟩ := hv
  refine P_gw_lts (fun hlt => ?_)
  refine g_bc2_1 hC.1.1 hm (fun g' τ' u' hx1 hu => ?_)
  have hf' : G_fr G_R5 G_12 g τ g' τ' := G_fr_xt hlt hx1
  refine q g' τ' u' Le hu ⟨G_fr_tr hf hf', ⟨cs1, G_C_xt hlt hx1 hC, hlo, hok⟩, hx, hxO, fun h0 => ?_⟩
  have hL := hLe h0
  exact ⟨(hf' _ _ _ hL.1).1, fun j a b => ((hf' _ _ _ hL.1).2 _ (fun q => by omega) (G_nR5 _ (by omega))).trans (hL.2 j a b)⟩

theorem g_bk2_2 {d : Nat} {w : P_Lw} {σ : P_A} {g : P_Gl} {τ : P_A} {N u : Nat} {Q : P_GQ} {G : Nat} {g0 : P_Gl} {τ0 : P_A} {T nt : Nat} {tt : Int → Nat} {rT : Int → Nat} {tr : Int → Int → Nat} {cT : Int → Nat} {VV : Int → Int → Int → Int} (hT : P_gT g0 τ0 G T nt tt rT tr cT VV) {S nn : Nat} {sn : Int → Int} (hS : P_gS g0 τ0 G S nn nt sn) {B : Nat} {cs : List A_cd} {ad : Int → Nat} (hm : nn = 2) {nv : Int} (h13 : τ0 G 13 = nv) (hnv : 0 ≤ nv ∧ nv ≤ 1) {cst : Int → Int} (hcst : ∀ s, A_isO (nn : Int) s → (G_co nv sn rT VV (A_lows (A_od s) cs) (A_od s) nn) = cst s ∧ 0 ≤ cst s ∧ cst s ≤ 3000) {Le : Nat} {x : Int × Int} (hv : G_bv g0 τ0 g τ G B nn Le sn cT cs ad x) (q : ∀ g' τ' u' Le', u' ≤ u + 8 → G_bv g0 τ0 g' τ' G B nn Le' sn cT cs ad x → P_gw (d + 7) 204 22 [.ref G, .ref Le', P_zl x.1, P_un, P_z ((nn : Nat) : Int), P_z 3, P_un, P_un, P_un, P_un, P_un, P_un, P_un] [] w σ g' τ' (N + 2) u' Q) : P_gw (d + 7) 204 22 [.ref G, .ref Le, P_zl x.1, P_un, P_z ((nn : Nat) : Int), P_z 2, P_un, P_un, P_un, P_un, P_un, P_un, P_un] [] w σ g τ N u Q := by
  obtain ⟨hf, ⟨cs1, hC, hlo, hok⟩, hx, hxO, hLe⟩ := hv
  refine P_gw_lts (fun hlt => ?_)
  refine g_bc2_2 hC.1.1 hm (fun g' τ' u' hx1 hu => ?_)
  have hf' : G_fr G_R5 G_12 g τ g' τ' := G_fr_xt hlt hx1
  refine q g' τ' u' Le hu ⟨G_fr_tr hf hf', ⟨cs1, G_C_xt hlt hx1 hC, hlo, hok⟩, hx, hxO, fun h0 => ?_⟩
  have hL := hLe h0
  exact ⟨(hf' _ _ _ hL.1).1, fun j a b => ((hf' _ _ _ hL.1).2 _ (fun q => by omega) (G_nR5 _ (by omega))).trans (hL.2 j a b)⟩

theorem g_bk2_3 {d : Nat} {w : P_Lw} {σ : P_A} {g : P_Gl} {τ : P_A} {N u : Nat} {Q : P_GQ} {G : Nat} {g0 : P_Gl} {τ0 : P_A} {T nt : Nat} {tt : Int → Nat} {rT : Int → Nat} {tr : Int → Int → Nat} {cT : Int → Nat} {VV : Int → Int → Int → Int} (hT : P_gT g0 τ0 G T nt tt rT tr cT VV) {S nn : Nat} {sn : Int → Int} (hS : P_gS g0 τ0 G S nn nt sn) {B : Nat} {cs : List A_cd} {ad : Int → Nat} (hm : nn = 2) {nv : Int} (h13 : τ0 G 13 = nv) (hnv : 0 ≤ nv ∧ nv ≤ 1) {cst : Int → Int} (hcst : ∀ s, A_isO (nn : Int) s → (G_co nv sn rT VV (A_lows (A_od s) cs) (A_od s) nn) = cst s ∧ 0 ≤ cst s ∧ cst s ≤ 3000) {Le : Nat} {x : Int × Int} (hv : G_bv g0 τ0 g τ G B nn Le sn cT cs ad x) (q : ∀ g' τ' u' Le', u' ≤ u + 8 → G_bv g0 τ0 g' τ' G B nn Le' sn cT cs ad (A_bt cst 0 x) → P_gw (d + 7) 204 22 [.ref G, .ref Le', P_zl (A_bt cst 0 x).1, P_un, P_z ((nn : Nat) : Int), P_z 4, P_un, P_un, P_un, P_un, P_un, P_un, P_un] [] w σ g' τ' (N + 2) u' Q) : P_gw (d + 7) 204 22 [.ref G, .ref Le, P_zl x.1, P_un, P_z ((nn : Nat) : Int), P_z 3, P_un, P_un, P_un, P_un, P_un, P_un, P_un] [] w σ g τ N u Q := by
  obtain ⟨hf, ⟨cs1, hC, hlo, hok⟩, hx, hxO, hLe⟩ := hv
  have hsO : A_isO (nn : Int) 0 := by unfold A_isO; omega
  have hcs := hcst 0 hsO
  have hC1 := hC
  refine P_gw_lts (fun hlt => ?_)
  refine g_bc2_3 (P_gT_fr hf (fun r a b => by unfold G_R5; omega) (by unfold G_12; omega) hT) (P_gS_fr hf ⟨G_nR5 _ (by omega), G_nR5 _ (by omega)⟩ (by unfold G_12; omega) hS) hC hok hm (((hf G _ _ hT.1.1).2 13 (fun _ => by unfold G_12; omega) (G_nR5 _ (by omega))).trans h13) hnv hx (by rw [hlo]; rw [hcs.1]; exact hcs.2) (fun g' τ' u' hu hf' hC' hO' => ?_)
  rw [hlo, hcs.1]
  rw [hlo] at hC'
  have hcarry : ∃ cs1, P_gC g' τ' G B cs1 ad ∧ (∀ od, A_lows od cs1 = A_lows od cs) ∧ ∀ y ∈ cs1, P_gok nn sn cT y := ⟨_, hC', fun od => G_lows_lows, hlo _ ▸ G_ok_lows hok⟩
  refine ⟨fun hl => ?_, fun hl => ?_⟩
  · have e := G_bt_t (cst := cst) (s := 0) (x := x) hl
    rw [e] at q
    exact q g' τ' u' (N + 1) hu ⟨G_fr_tr hf hf', hcarry, ⟨by simp only; omega, hcs.2.2⟩, hsO, fun _ => ⟨hO'.2.1, fun j a b => (hO'.2.2.1 j a b).1⟩⟩
  · have e := G_bt_f (cst := cst) (s := 0) (x := x) hl
    rw [e] at q
    refine q g' τ' u' Le hu ⟨G_fr_tr hf hf', hcarry, hx, hxO, fun h0 => ?_⟩
    have hL := hLe h0
    exact ⟨(hf' _ _ _ hL.1).1, fun j a b => ((hf' _ _ _ hL.1).2 _ (fun q => by omega) (G_nR5 _ (by omega))).trans (hL.2 j a b)⟩

theorem g_bk2_4 {d : Nat} {w : P_Lw} {σ : P_A} {g : P_Gl} {τ : P_A} {N u : Nat} {Q : P_GQ} {G : Nat} {g0 : P_Gl} {τ0 : P_A} {T nt : Nat} {tt : Int → Nat} {rT : Int → Nat} {tr : Int → Int → Nat} {cT : Int → Nat} {VV : Int → Int → Int → Int} (hT : P_gT g0 τ0 G T nt tt rT tr cT VV) {S nn : Nat} {sn : Int → Int} (hS : P_gS g0 τ0 G S nn nt sn) {B : Nat} {cs : List A_cd} {ad : Int → Nat} (hm : nn = 2) {nv : Int} (h13 : τ0 G 13 = nv) (hnv : 0 ≤ nv ∧ nv ≤ 1) {cst : Int → Int} (hcst : ∀ s, A_isO (nn : Int) s → (G_co nv sn rT VV (A_lows (A_od s) cs) (A_od s) nn) = cst s ∧ 0 ≤ cst s ∧ cst s ≤ 3000) {Le : Nat} {x : Int × Int} (hv : G_bv g0 τ0 g τ G B nn Le sn cT cs ad x) (q : ∀ g' τ' u' Le', u' ≤ u + 8 → G_bv g0 τ0 g' τ' G B nn Le' sn cT cs ad x → P_gw (d + 7) 204 22 [.ref G, .ref Le', P_zl x.1, P_un, P_z ((nn : Nat) : Int), P_z 5, P_un, P_un, P_un, P_un, P_un, P_un, P_un] [] w σ g' τ' (N + 2) u' Q) : P_gw (d + 7) 204 22 [.ref G, .ref Le, P_zl x.1, P_un, P_z ((nn : Nat) : Int), P_z 4, P_un, P_un, P_un, P_un, P_un, P_un, P_un] [] w σ g τ N u Q := by
  obtain ⟨hf, ⟨cs1, hC, hlo, hok⟩, hx, hxO, hLe⟩ := hv
  refine P_gw_lts (fun hlt => ?_)
  refine g_bc2_4 hC.1.1 hm (fun g' τ' u' hx1 hu => ?_)
  have hf' : G_fr G_R5 G_12 g τ g' τ' := G_fr_xt hlt hx1
  refine q g' τ' u' Le hu ⟨G_fr_tr hf hf', ⟨cs1, G_C_xt hlt hx1 hC, hlo, hok⟩, hx, hxO, fun h0 => ?_⟩
  have hL := hLe h0
  exact ⟨(hf' _ _ _ hL.1).1, fun j a b => ((hf' _ _ _ hL.1).2 _ (fun q => by omega) (G_nR5 _ (by omega))).trans (hL.2 j a b)⟩

theorem g_bk2_5 {d : Nat} {w : P_Lw} {σ : P_A} {g : P_Gl} {τ : P_A} {N u : Nat} {Q : P_GQ} {G : Nat} {g0 : P_Gl} {τ0 : P_A} {T nt : Nat} {tt : Int → Nat} {rT : Int → Nat} {tr : Int → Int → Nat} {cT : Int → Nat} {VV : Int → Int → Int → Int} (hT : P_gT g0 τ0 G T nt tt rT tr cT VV) {S nn : Nat} {sn : Int → Int} (hS : P_gS g0 τ0 G S nn nt sn) {B : Nat} {cs : List A_cd} {ad : Int → Nat} (hm : nn = 2) {nv : Int} (h13 : τ0 G 13 = nv) (hnv : 0 ≤ nv ∧ nv ≤ 1) {cst : Int → Int} (hcst : ∀ s, A_isO (nn : Int) s → (G_co nv sn rT VV (A_lows (A_od s) cs) (A_od s) nn) = cst s ∧ 0 ≤ cst s ∧ cst s ≤ 3000) {Le : Nat} {x : Int × Int} (hv : G_bv g0 τ0 g τ G B nn Le sn cT cs ad x) (q : ∀ g' τ' u' Le', u' ≤ u + 8 → G_bv g0 τ0 g' τ' G B nn Le' sn cT cs ad x → P_gw (d + 7) 204 22 [.ref G, .ref Le', P_zl x.1, P_un, P_z ((nn : Nat) : Int), P_z 6, P_un, P_un, P_un, P_un, P_un, P_un, P_un] [] w σ g' τ' (N + 2) u' Q) : P_gw (d + 7) 204 22 [.ref G, .ref Le, P_zl x.1, P_un, P_z ((nn : Nat) : Int), P_z 5, P_un, P_un, P_un, P_un, P_un, P_un, P_un] [] w σ g τ N u Q := by
  obtain ⟨hf, ⟨cs1, hC, hlo, hok⟩, hx, hxO, hLe⟩ := hv
  refine P_gw_lts (fun hlt => ?_)
  refine g_bc2_5 hC.1.1 hm (fun g' τ' u' hx1 hu => ?_)
  have hf' : G_fr G_R5 G_12 g τ g' τ' := G_fr_xt hlt hx1
  refine q g' τ' u' Le hu ⟨G_fr_tr hf hf', ⟨cs1, G_C_xt hlt hx1 hC, hlo, hok⟩, hx, hxO, fun h0 => ?_⟩
  have hL := hLe h0
  exact ⟨(hf' _ _ _ hL.1).1, fun j a b => ((hf' _ _ _ hL.1).2 _ (fun q => by omega) (G_nR5 _ (by omega))).trans (hL.2 j a b)⟩

theorem g_bk2_6 {d : Nat} {w : P_Lw} {σ : P_A} {g : P_Gl} {τ : P_A} {N u : Nat} {Q : P_GQ} {G : Nat} {g0 : P_Gl} {τ0 : P_A} {T nt : Nat} {tt : Int → Nat} {rT : Int → Nat} {tr : Int → Int → Nat} {cT : Int → Nat} {VV : Int → Int → Int → Int} (hT : P_gT g0 τ0 G T nt tt rT tr cT VV) {S nn : Nat} {sn : Int → Int} (hS : P_gS g0 τ0 G S nn nt sn) {B : Nat} {cs : List A_cd} {ad : Int → Nat} (hm : nn = 2) {nv : Int} (h13 : τ0 G 13 = nv) (hnv : 0 ≤ nv ∧ nv ≤ 1) {cst : Int → Int} (hcst : ∀ s, A_isO (nn : Int) s → (G_co nv sn rT VV (A_lows (A_od s) cs) (A_od s) nn) = cst s ∧ 0 ≤ cst s ∧ cst s ≤ 3000) {Le : Nat} {x : Int × Int} (hv : G_bv g0 τ0 g τ G B nn Le sn cT cs ad x) (q : ∀ g' τ' u' Le', u' ≤ u + 8 → G_bv g0 τ0 g' τ' G B nn Le' sn cT cs ad x → P_gw (d + 7) 204 22 [.ref G, .ref Le', P_zl x.1, P_un, P_z ((nn : Nat) : Int), P_z 7, P_un, P_un, P_un, P_un, P_un, P_un, P_un] [] w σ g' τ' (N + 2) u' Q) : P_gw (d + 7) 204 22 [.ref G, .ref Le, P_zl x.1, P_un, P_z ((nn : Nat) : Int), P_z 6, P_un, P_un, P_un, P_un, P_un, P_un, P_un] [] w σ g τ N u Q := by
  obtain ⟨hf, ⟨cs1, hC, hlo, hok⟩, hx, hxO, hLe⟩ := hv
  refine P_gw_lts (fun hlt => ?_)
  refine g_bc2_6 hC.1.1 hm (fun g' τ' u' hx1 hu => ?_)
  have hf' : G_fr G_R5 G_12 g τ g' τ' := G_fr_xt hlt hx1
  refine q g' τ' u' Le hu ⟨G_fr_tr hf hf', ⟨cs1, G_C_xt hlt hx1 hC, hlo, hok⟩, hx, hxO, fun h0 => ?_⟩
  have hL := hLe h0
  exact ⟨(hf' _ _ _ hL.1).1, fun j a b => ((hf' _ _ _ hL.1).2 _ (fun q => by omega) (G_nR5 _ (by omega))).trans (hL.2 j a b)⟩

theorem g_bk2_7 {d : Nat} {w : P_Lw} {σ : P_A} {g : P_Gl} {τ : P_A} {N u : Nat} {Q : P_GQ} {G : Nat} {g0 : P_Gl} {τ0 : P_A} {T nt : Nat} {tt : Int → Nat} {rT : Int → Nat} {tr : Int → Int → Nat} {cT : Int → Nat} {VV : Int → Int → Int → Int} (hT : P_gT g0 τ0 G T nt tt rT tr cT VV) {S nn : Nat} {sn : Int → Int} (hS : P_gS g0 τ0 G S nn nt sn) {B : Nat} {cs : List A_cd} {ad : Int → Nat} (hm : nn = 2) {nv : Int} (h13 : τ0 G 13 = nv) (hnv : 0 ≤ nv ∧ nv ≤ 1) {cst : Int → Int} (hcst : ∀ s, A_isO (nn : Int) s → (G_co nv sn rT VV (A_lows (A_od s) cs) (A_od s) nn) = cst s ∧ 0 ≤ cst s ∧ cst s ≤ 3000) {Le : Nat} {x : Int × Int} (hv : G_bv g0 τ0 g τ G B nn Le sn cT cs ad x) (q : ∀ g' τ' u' Le', u' ≤ u + 8 → G_bv g0 τ0 g' τ' G B nn Le' sn cT cs ad x → P_gw (d + 7) 204 22 [.ref G, .ref Le', P_zl x.1, P_un, P_z ((nn : Nat) : Int), P_z 8, P_un, P_un, P_un, P_un, P_un, P_un, P_un] [] w σ g' τ' (N + 2) u' Q) : P_gw (d + 7) 204 22 [.ref G, .ref Le, P_zl x.1, P_un, P_z ((nn : Nat) : Int), P_z 7, P_un, P_un, P_un, P_un, P_un, P_un, P_un] [] w σ g τ N u Q := by
  obtain ⟨hf, ⟨cs1, hC, hlo, hok⟩, hx, hxO, hLe⟩ := hv
  refine P_gw_lts (fun hlt => ?_)
  refine g_bc2_7 hC.1.1 hm (fun g' τ' u' hx1 hu => ?_)
  have hf' : G_fr G_R5 G_12 g τ g' τ' := G_fr_xt hlt hx1
  refine q g' τ' u' Le hu ⟨G_fr_tr hf hf', ⟨cs1, G_C_xt hlt hx1 hC, hlo, hok⟩, hx, hxO, fun h0 => ?_⟩
  have hL := hLe h0
  exact ⟨(hf' _ _ _ hL.1).1, fun j a b => ((hf' _ _ _ hL.1).2 _ (fun q => by omega) (G_nR5 _ (by omega))).trans (hL.2 j a b)⟩

theorem g_bk2_8 {d : Nat} {w : P_Lw} {σ : P_A} {g : P_Gl} {τ : P_A} {N u : Nat} {Q : P_GQ} {G : Nat} {g0 : P_Gl} {τ0 : P_A} {T nt : Nat} {tt : Int → Nat} {rT : Int → Nat} {tr : Int → Int → Nat} {cT : Int → Nat} {VV : Int → Int → Int → Int} (hT : P_gT g0 τ0 G T nt tt rT tr cT VV) {S nn : Nat} {sn : Int → Int} (hS : P_gS g0 τ0 G S nn nt sn) {B : Nat} {cs : List A_cd} {ad : Int → Nat} (hm : nn = 2) {nv : Int} (h13 : τ0 G 13 = nv) (hnv : 0 ≤ nv ∧ nv ≤ 1) {cst : Int → Int} (hcst : ∀ s, A_isO (nn : Int) s → (G_co nv sn rT VV (A_lows (A_od s) cs) (A_od s) nn) = cst s ∧ 0 ≤ cst s ∧ cst s ≤ 3000) {Le : Nat} {x : Int × Int} (hv : G_bv g0 τ0 g τ G B nn Le sn cT cs ad x) (q : ∀ g' τ' u' Le', u' ≤ u + 8 → G_bv g0 τ0 g' τ' G B nn Le' sn cT cs ad x → P_gw (d + 7) 204 22 [.ref G, .ref Le', P_zl x.1, P_un, P_z ((nn : Nat) : Int), P_z 9, P_un, P_un, P_un, P_un, P_un, P_un, P_un] [] w σ g' τ' (N + 2) u' Q) : P_gw (d + 7) 204 22 [.ref G, .ref Le, P_zl x.1, P_un, P_z ((nn : Nat) : Int), P_z 8, P_un, P_un, P_un, P_un, P_un, P_un, P_un] [] w σ g τ N u Q := by
  obtain ⟨hf, ⟨cs1, hC, hlo, hok⟩, hx, hxO, hLe⟩ := hv
  refine P_gw_lts (fun hlt => ?_)
  refine g_bc2_8 hC.1.1 hm (fun g' τ' u' hx1 hu => ?_)
  have hf' : G_fr G_R5 G_12 g τ g' τ' := G_fr_xt hlt hx1
  refine q g' τ' u' Le hu ⟨G_fr_tr hf hf', ⟨cs1, G_C_xt hlt hx1 hC, hlo, hok⟩, hx, hxO, fun h0 => ?_⟩
  have hL := hLe h0
  exact ⟨(hf' _ _ _ hL.1).1, fun j a b => ((hf' _ _ _ hL.1).2 _ (fun q => by omega) (G_nR5 _ (by omega))).trans (hL.2 j a b)⟩

theorem g_bk2_9 {d : Nat} {w : P_Lw} {σ : P_A} {g : P_Gl} {τ : P_A} {N u : Nat} {Q : P_GQ} {G : Nat} {g0 : P_Gl} {τ0 : P_A} {T nt : Nat} {tt : Int → Nat} {rT : Int → Nat} {tr : Int → Int → Nat} {cT : Int → Nat} {VV : Int → Int → Int → Int} (hT : P_gT g0 τ0 G T nt tt rT tr cT VV) {S nn : Nat} {sn : Int → Int} (hS : P_gS g0 τ0 G S nn nt sn) {B : Nat} {cs : List A_cd} {ad : Int → Nat} (hm : nn = 2) {nv : Int} (h13 : τ0 G 13 = nv) (hnv : 0 ≤ nv ∧ nv ≤ 1) {cst : Int → Int} (hcst : ∀ s, A_isO (nn : Int) s → (G_co nv sn rT VV (A_lows (A_od s) cs) (A_od s) nn) = cst s ∧ 0 ≤ cst s ∧ cst s ≤ 3000) {Le : Nat} {x : Int × Int} (hv : G_bv g0 τ0 g τ G B nn Le sn cT cs ad x) (q : ∀ g' τ' u' Le', u' ≤ u + 8 → G_bv g0 τ0 g' τ' G B nn Le' sn cT cs ad (A_bt cst 6 x) → P_gw (d + 7) 204 22 [.ref G, .ref Le', P_zl (A_bt cst 6 x).1, P_un, P_z ((nn : Nat) : Int), P_z 10, P_un, P_un, P_un, P_un, P_un, P_un, P_un] [] w σ g' τ' (N + 2) u' Q) : P_gw (d + 7) 204 22 [.ref G, .ref Le, P_zl x.1, P_un, P_z ((nn : Nat) : Int), P_z 9, P_un, P_un, P_un, P_un, P_un, P_un, P_un] [] w σ g τ N u Q := by
  obtain ⟨hf, ⟨cs1, hC, hlo, hok⟩, hx, hxO, hLe⟩ := hv
  have hsO : A_isO (nn : Int) 6 := by unfold A_isO; omega
  have hcs := hcst 6 hsO
  have hC1 := hC
  refine P_gw_lts (fun hlt => ?_)
  refine g_bc2_9 (P_gT_fr hf (fun r a b => by unfold G_R5; omega) (by unfold G_12; omega) hT) (P_gS_fr hf ⟨G_nR5 _ (by omega), G_nR5 _ (by omega)⟩ (by unfold G_12; omega) hS) hC hok hm (((hf G _ _ hT.1.1).2 13 (fun _ => by unfold G_12; omega) (G_nR5 _ (by omega))).trans h13) hnv hx (by rw [hlo]; rw [hcs.1]; exact hcs.2) (fun g' τ' u' hu hf' hC' hO' => ?_)
  rw [hlo, hcs.1]
  rw [hlo] at hC'
  have hcarry : ∃ cs1, P_gC g' τ' G B cs1 ad ∧ (∀ od, A_lows od cs1 = A_lows od cs) ∧ ∀ y ∈ cs1, P_gok nn sn cT y := ⟨_, hC', fun od => G_lows_lows, hlo _ ▸ G_ok_lows hok⟩
  refine ⟨fun hl => ?_, fun hl => ?_⟩
  · have e := G_bt_t (cst := cst) (s := 6) (x := x) hl
    rw [e] at q
    exact q g' τ' u' (N + 1) hu ⟨G_fr_tr hf hf', hcarry, ⟨by simp only; omega, hcs.2.2⟩, hsO, fun _ => ⟨hO'.2.1, fun j a b => (hO'.2.2.1 j a b).1⟩⟩
  · have e := G_bt_f (cst := cst) (s := 6) (x := x) hl
    rw [e] at q
    refine q g' τ' u' Le hu ⟨G_fr_tr hf hf', hcarry, hx, hxO, fun h0 => ?_⟩
    have hL := hLe h0
    exact ⟨(hf' _ _ _ hL.1).1, fun j a b => ((hf' _ _ _ hL.1).2 _ (fun q => by omega) (G_nR5 _ (by omega))).trans (hL.2 j a b)⟩

theorem g_bk2_10 {d : Nat} {w : P_Lw} {σ : P_A} {g : P_Gl} {τ : P_A} {N u : Nat} {Q : P_GQ} {G : Nat} {g0 : P_Gl} {τ0 : P_A} {T nt : Nat} {tt : Int → Nat} {rT : Int → Nat} {tr : Int → Int → Nat} {cT : Int → Nat} {VV : Int → Int → Int → Int} (hT : P_gT g0 τ0 G T nt tt rT tr cT VV) {S nn : Nat} {sn : Int → Int} (hS : P_gS g0 τ0 G S nn nt sn) {B : Nat} {cs : List A_cd} {ad : Int → Nat} (hm : nn = 2) {nv : Int} (h13 : τ0 G 13 = nv) (hnv : 0 ≤ nv ∧ nv ≤ 1) {cst : Int → Int} (hcst : ∀ s, A_isO (nn : Int) s → (G_co nv sn rT VV (A_lows (A_od s) cs) (A_od s) nn) = cst s ∧ 0 ≤ cst s ∧ cst s ≤ 3000) {Le : Nat} {x : Int × Int} (hv : G_bv g0 τ0 g τ G B nn Le sn cT cs ad x) (q : ∀ g' τ' u' Le', u' ≤ u + 8 → G_bv g0 τ0 g' τ' G B nn Le' sn cT cs ad x → P_gw (d + 7) 204 22 [.ref G, .ref Le', P_zl x.1, P_un, P_z ((nn : Nat) : Int), P_z 11, P_un, P_un, P_un, P_un, P_un, P_un, P_un] [] w σ g' τ' (N + 2) u' Q) : P_gw (d + 7) 204 22 [.ref G, .ref Le, P_zl x.1, P_un, P_z ((nn : Nat) : Int), P_z 10, P_un, P_un, P_un, P_un, P_un, P_un, P_un] [] w σ g τ N u Q := by
  obtain ⟨hf, ⟨cs1, hC, hlo, hok⟩, hx, hxO, hLe⟩ := hv
  refine P_gw_lts (fun hlt => ?_)
  refine g_bc2_10 hC.1.1 hm (fun g' τ' u' hx1 hu => ?_)
  have hf' : G_fr G_R5 G_12 g τ g' τ' := G_fr_xt hlt hx1
  refine q g' τ' u' Le hu ⟨G_fr_tr hf hf', ⟨cs1, G_C_xt hlt hx1 hC, hlo, hok⟩, hx, hxO, fun h0 => ?_⟩
  have hL := hLe h0
  exact ⟨(hf' _ _ _ hL.1).1, fun j a b => ((hf' _ _ _ hL.1).2 _ (fun q => by omega) (G_nR5 _ (by omega))).trans (hL.2 j a b)⟩

theorem g_bk2_11 {d : Nat} {w : P_Lw} {σ : P_A} {g : P_Gl} {τ : P_A} {N u : Nat} {Q : P_GQ} {G : Nat} {g0 : P_Gl} {τ0 : P_A} {T nt : Nat} {tt : Int → Nat} {rT : Int → Nat} {tr : Int → Int → Nat} {cT : Int → Nat} {VV : Int → Int → Int → Int} (hT : P_gT g0 τ0 G T nt tt rT tr cT VV) {S nn : Nat} {sn : Int → Int} (hS : P_gS g0 τ0 G S nn nt sn) {B : Nat} {cs : List A_cd} {ad : Int → Nat} (hm : nn = 2) {nv : Int} (h13 : τ0 G 13 = nv) (hnv : 0 ≤ nv ∧ nv ≤ 1) {cst : Int → Int} (hcst : ∀ s, A_isO (nn : Int) s → (G_co nv sn rT VV (A_lows (A_od s) cs) (A_od s) nn) = cst s ∧ 0 ≤ cst s ∧ cst s ≤ 3000) {Le : Nat} {x : Int × Int} (hv : G_bv g0 τ0 g τ G B nn Le sn cT cs ad x) (q : ∀ g' τ' u' Le', u' ≤ u + 8 → G_bv g0 τ0 g' τ' G B nn Le' sn cT cs ad x → P_gw (d + 7) 204 22 [.ref G, .ref Le', P_zl x.1, P_un, P_z ((nn : Nat) : Int), P_z 12, P_un, P_un, P_un, P_un, P_un, P_un, P_un] [] w σ g' τ' (N + 2) u' Q) : P_gw (d + 7) 204 22 [.ref G, .ref Le, P_zl x.1, P_un, P_z ((nn : Nat) : Int), P_z 11, P_un, P_un, P_un, P_un, P_un, P_un, P_un] [] w σ g τ N u Q := by
  obtain ⟨hf, ⟨cs1, hC, hlo, hok⟩, hx, hxO, hLe⟩ := hv
  refine P_gw_lts (fun hlt => ?_)
  refine g_bc2_11 hC.1.1 hm (fun g' τ' u' hx1 hu => ?_)
  have hf' : G_fr G_R5 G_12 g τ g' τ' := G_fr_xt hlt hx1
  refine q g' τ' u' Le hu ⟨G_fr_tr hf hf', ⟨cs1, G_C_xt hlt hx1 hC, hlo, hok⟩, hx, hxO, fun h0 => ?_⟩
  have hL := hLe h0
  exact ⟨(hf' _ _ _ hL.1).1, fun j a b => ((hf' _ _ _ hL.1).2 _ (fun q => by omega) (G_nR5 _ (by omega))).trans (hL.2 j a b)⟩

theorem g_bk2_12 {d : Nat} {w : P_Lw} {σ : P_A} {g : P_Gl} {τ : P_A} {N u : Nat} {Q : P_GQ} {G : Nat} {g0 : P_Gl} {τ0 : P_A} {T nt : Nat} {tt : Int → Nat} {rT : Int → Nat} {tr : Int → Int → Nat} {cT : Int → Nat} {VV : Int → Int → Int → Int} (hT : P_gT g0 τ0 G T nt tt rT tr cT VV) {S nn : Nat} {sn : Int → Int} (hS : P_gS g0 τ0 G S nn nt sn) {B : Nat} {cs : List A_cd} {ad : Int → Nat} (hm : nn = 2) {nv : Int} (h13 : τ0 G 13 = nv) (hnv : 0 ≤ nv ∧ nv ≤ 1) {cst : Int → Int} (hcst : ∀ s, A_isO (nn : Int) s → (G_co nv sn rT VV (A_lows (A_od s) cs) (A_od s) nn) = cst s ∧ 0 ≤ cst s ∧ cst s ≤ 3000) {Le : Nat} {x : Int × Int} (hv : G_bv g0 τ0 g τ G B nn Le sn cT cs ad x) (q : ∀ g' τ' u' Le', u' ≤ u + 8 → G_bv g0 τ0 g' τ' G B nn Le' sn cT cs ad x → P_gw (d + 7) 204 22 [.ref G, .ref Le', P_zl x.1, P_un, P_z ((nn : Nat) : Int), P_z 13, P_un, P_un, P_un, P_un, P_un, P_un, P_un] [] w σ g' τ' (N + 2) u' Q) : P_gw (d + 7) 204 22 [.ref G, .ref Le, P_zl x.1, P_un, P_z ((nn : Nat) : Int), P_z 12, P_un, P_un, P_un, P_un, P_un, P_un, P_un] [] w σ g τ N u Q := by
  obtain ⟨hf, ⟨cs1, hC, hlo, hok⟩, hx, hxO, hLe⟩ := hv
  refine P_gw_lts (fun hlt => ?_)
  refine g_bc2_12 hC.1.1 hm (fun g' τ' u' hx1 hu => ?_)
  have hf' : G_fr G_R5 G_12 g τ g' τ' := G_fr_xt hlt hx1
  refine q g' τ' u' Le hu ⟨G_fr_tr hf hf', ⟨cs1, G_C_xt hlt hx1 hC, hlo, hok⟩, hx, hxO, fun h0 => ?_⟩
  have hL := hLe h0
  exact ⟨(hf' _ _ _ hL.1).1, fun j a b => ((hf' _ _ _ hL.1).2 _ (fun q => by omega) (G_nR5 _ (by omega))).trans (hL.2 j a b)⟩

theorem g_bk2_13 {d : Nat} {w : P_Lw} {σ : P_A} {g : P_Gl} {τ : P_A} {N u : Nat} {Q : P_GQ} {G : Nat} {g0 : P_Gl} {τ0 : P_A} {T nt : Nat} {tt : Int → Nat} {rT : Int → Nat} {tr : Int → Int → Nat} {cT : Int → Nat} {VV : Int → Int → Int → Int} (hT : P_gT g0 τ0 G T nt tt rT tr cT VV) {S nn : Nat} {sn : Int → Int} (hS : P_gS g0 τ0 G S nn nt sn) {B : Nat} {cs : List A_cd} {ad : Int → Nat} (hm : nn = 2) {nv : Int} (h13 : τ0 G 13 = nv) (hnv : 0 ≤ nv ∧ nv ≤ 1) {cst : Int → Int} (hcst : ∀ s, A_isO (nn : Int) s → (G_co nv sn rT VV (A_lows (A_od s) cs) (A_od s) nn) = cst s ∧ 0 ≤ cst s ∧ cst s ≤ 3000) {Le : Nat} {x : Int × Int} (hv : G_bv g0 τ0 g τ G B nn Le sn cT cs ad x) (q : ∀ g' τ' u' Le', u' ≤ u + 8 → G_bv g0 τ0 g' τ' G B nn Le' sn cT cs ad x → P_gw (d + 7) 204 22 [.ref G, .ref Le', P_zl x.1, P_un, P_z ((nn : Nat) : Int), P_z 14, P_un, P_un, P_un, P_un, P_un, P_un, P_un] [] w σ g' τ' (N + 2) u' Q) : P_gw (d + 7) 204 22 [.ref G, .ref Le, P_zl x.1, P_un, P_z ((nn : Nat) : Int), P_z 13, P_un, P_un, P_un, P_un, P_un, P_un, P_un] [] w σ g τ N u Q := by
  obtain ⟨hf, ⟨cs1, hC, hlo, hok⟩, hx, hxO, hLe⟩ := hv
  refine P_gw_lts (fun hlt => ?_)
  refine g_bc2_13 hC.1.1 hm (fun g' τ' u' hx1 hu => ?_)
  have hf' : G_fr G_R5 G_12 g τ g' τ' := G_fr_xt hlt hx1
  refine q g' τ' u' Le hu ⟨G_fr_tr hf hf', ⟨cs1, G_C_xt hlt hx1 hC, hlo, hok⟩, hx, hxO, fun h0 => ?_⟩
  have hL := hLe h0
  exact ⟨(hf' _ _ _ hL.1).1, fun j a b => ((hf' _ _ _ hL.1).2 _ (fun q => by omega) (G_nR5 _ (by omega))).trans (hL.2 j a b)⟩

theorem g_bk2_14 {d : Nat} {w : P_Lw} {σ : P_A} {g : P_Gl} {τ : P_A} {N u : Nat} {Q : P_GQ} {G : Nat} {g0 : P_Gl} {τ0 : P_A} {T nt : Nat} {tt : Int → Nat} {rT : Int → Nat} {tr : Int → Int → Nat} {cT : Int → Nat} {VV : Int → Int → Int → Int} (hT : P_gT g0 τ0 G T nt tt rT tr cT VV) {S nn : Nat} {sn : Int → Int} (hS : P_gS g0 τ0 G S nn nt sn) {B : Nat} {cs : List A_cd} {ad : Int → Nat} (hm : nn = 2) {nv : Int} (h13 : τ0 G 13 = nv) (hnv : 0 ≤ nv ∧ nv ≤ 1) {cst : Int → Int} (hcst : ∀ s, A_isO (nn : Int) s → (G_co nv sn rT VV (A_lows (A_od s) cs) (A_od s) nn) = cst s ∧ 0 ≤ cst s ∧ cst s ≤ 3000) {Le : Nat} {x : Int × Int} (hv : G_bv g0 τ0 g τ G B nn Le sn cT cs ad x) (q : ∀ g' τ' u' Le', u' ≤ u + 8 → G_bv g0 τ0 g' τ' G B nn Le' sn cT cs ad x → P_gw (d + 7) 204 22 [.ref G, .ref Le', P_zl x.1, P_un, P_z ((nn : Nat) : Int), P_z 15, P_un, P_un, P_un, P_un, P_un, P_un, P_un] [] w σ g' τ' (N + 2) u' Q) : P_gw (d + 7) 204 22 [.ref G, .ref Le, P_zl x.1, P_un, P_z ((nn : Nat) : Int), P_z 14, P_un, P_un, P_un, P_un, P_un, P_un, P_un] [] w σ g τ N u Q := by
  obtain ⟨hf, ⟨cs1, hC, hlo, hok⟩, hx, hxO, hLe⟩ := hv
  refine P_gw_lts (fun hlt => ?_)
  refine g_bc2_14 hC.1.1 hm (fun g' τ' u' hx1 hu => ?_)
  have hf' : G_fr G_R5 G_12 g τ g' τ' := G_fr_xt hlt hx1
  refine q g' τ' u' Le hu ⟨G_fr_tr hf hf', ⟨cs1, G_C_xt hlt hx1 hC, hlo, hok⟩, hx, hxO, fun h0 => ?_⟩
  have hL := hLe h0
  exact ⟨(hf' _ _ _ hL.1).1, fun j a b => ((hf' _ _ _ hL.1).2 _ (fun q => by omega) (G_nR5 _ (by omega))).trans (hL.2 j a b)⟩

theorem g_bk2_15 {d : Nat} {w : P_Lw} {σ : P_A} {g : P_Gl} {τ : P_A} {N u : Nat} {Q : P_GQ} {G : Nat} {g0 : P_Gl} {τ0 : P_A} {T nt : Nat} {tt : Int → Nat} {rT : Int → Nat} {tr : Int → Int → Nat} {cT : Int → Nat} {VV : Int → Int → Int → Int} (hT : P_gT g0 τ0 G T nt tt rT tr cT VV) {S nn : Nat} {sn : Int → Int} (hS : P_gS g0 τ0 G S nn nt sn) {B : Nat} {cs : List A_cd} {ad : Int → Nat} (hm : nn = 2) {nv : Int} (h13 : τ0 G 13 = nv) (hnv : 0 ≤ nv ∧ nv ≤ 1) {cst : Int → Int} (hcst : ∀ s, A_isO (nn : Int) s → (G_co nv sn rT VV (A_lows (A_od s) cs) (A_od s) nn) = cst s ∧ 0 ≤ cst s ∧ cst s ≤ 3000) {Le : Nat} {x : Int × Int} (hv : G_bv g0 τ0 g τ G B nn Le sn cT cs ad x) (q : ∀ g' τ' u' Le', u' ≤ u + 8 → G_bv g0 τ0 g' τ' G B nn Le' sn cT cs ad x → P_gw (d + 7) 204 22 [.ref G, .ref Le', P_zl x.1, P_un, P_z ((nn : Nat) : Int), P_z 16, P_un, P_un, P_un, P_un, P_un, P_un, P_un] [] w σ g' τ' (N + 2) u' Q) : P_gw (d + 7) 204 22 [.ref G, .ref Le, P_zl x.1, P_un, P_z ((nn : Nat) : Int), P_z 15, P_un, P_un, P_un, P_un, P_un, P_un, P_un] [] w σ g τ N u Q := by
  obtain ⟨hf, ⟨cs1, hC, hlo, hok⟩, hx, hxO, hLe⟩ := hv
  refine P_gw_lts (fun hlt => ?_)
  refine g_bc2_15 hC.1.1 hm (fun g' τ' u' hx1 hu => ?_)
  have hf' : G_fr G_R5 G_12 g τ g' τ' := G_fr_xt hlt hx1
  refine q g' τ' u' Le hu ⟨G_fr_tr hf hf', ⟨cs1, G_C_xt hlt hx1 hC, hlo, hok⟩, hx, hxO, fun h0 => ?_⟩
  have hL := hLe h0
  exact ⟨(hf' _ _ _ hL.1).1, fun j a b => ((hf' _ _ _ hL.1).2 _ (fun q => by omega) (G_nR5 _ (by omega))).trans (hL.2 j a b)⟩

theorem g_bk2_16 {d : Nat} {w : P_Lw} {σ : P_A} {g : P_Gl} {τ : P_A} {N u : Nat} {Q : P_GQ} {G : Nat} {g0 : P_Gl} {τ0 : P_A} {T nt : Nat} {tt : Int → Nat} {rT : Int → Nat} {tr : Int → Int → Nat} {cT : Int → Nat} {VV : Int → Int → Int → Int} (hT : P_gT g0 τ0 G T nt tt rT tr cT VV) {S nn : Nat} {sn : Int → Int} (hS : P_gS g0 τ0 G S nn nt sn) {B : Nat} {cs : List A_cd} {ad : Int → Nat} (hm : nn = 2) {nv : Int} (h13 : τ0 G 13 = nv) (hnv : 0 ≤ nv ∧ nv ≤ 1) {cst : Int → Int} (hcst : ∀ s, A_isO (nn : Int) s → (G_co nv sn rT VV (A_lows (A_od s) cs) (A_od s) nn) = cst s ∧ 0 ≤ cst s ∧ cst s ≤ 3000) {Le : Nat} {x : Int × Int} (hv : G_bv g0 τ0 g τ G B nn Le sn cT cs ad x) (q : ∀ g' τ' u' Le', u' ≤ u + 8 → G_bv g0 τ0 g' τ' G B nn Le' sn cT cs ad x → P_gw (d + 7) 204 22 [.ref G, .ref Le', P_zl x.1, P_un, P_z ((nn : Nat) : Int), P_z 17, P_un, P_un, P_un, P_un, P_un, P_un, P_un] [] w σ g' τ' (N + 2) u' Q) : P_gw (d + 7) 204 22 [.ref G, .ref Le, P_zl x.1, P_un, P_z ((nn : Nat) : Int), P_z 16, P_un, P_un, P_un, P_un, P_un, P_un, P_un] [] w σ g τ N u Q := by
  obtain ⟨hf, ⟨cs1, hC, hlo, hok⟩, hx, hxO, hLe⟩ := hv
  refine P_gw_lts (fun hlt => ?_)
  refine g_bc2_16 hC.1.1 hm (fun g' τ' u' hx1 hu => ?_)
  have hf' : G_fr G_R5 G_12 g τ g' τ' := G_fr_xt hlt hx1
  refine q g' τ' u' Le hu ⟨G_fr_tr hf hf', ⟨cs1, G_C_xt hlt hx1 hC, hlo, hok⟩, hx, hxO, fun h0 => ?_⟩
  have hL := hLe h0
  exact ⟨(hf' _ _ _ hL.1).1, fun j a b => ((hf' _ _ _ hL.1).2 _ (fun q => by omega) (G_nR5 _ (by omega))).trans (hL.2 j a b)⟩

theorem g_bk2_17 {d : Nat} {w : P_Lw} {σ : P_A} {g : P_Gl} {τ : P_A} {N u : Nat} {Q : P_GQ} {G : Nat} {g0 : P_Gl} {τ0 : P_A} {T nt : Nat} {tt : Int → Nat} {rT : Int → Nat} {tr : Int → Int → Nat} {cT : Int → Nat} {VV : Int → Int → Int → Int} (hT : P_gT g0 τ0 G T nt tt rT tr cT VV) {S nn : Nat} {sn : Int → Int} (hS : P_gS g0 τ0 G S nn nt sn) {B : Nat} {cs : List A_cd} {ad : Int → Nat} (hm : nn = 2) {nv : Int} (h13 : τ0 G 13 = nv) (hnv : 0 ≤ nv ∧ nv ≤ 1) {cst : Int → Int} (hcst : ∀ s, A_isO (nn : Int) s → (G_co nv sn rT VV (A_lows (A_od s) cs) (A_od s) nn) = cst s ∧ 0 ≤ cst s ∧ cst s ≤ 3000) {Le : Nat} {x : Int × Int} (hv : G_bv g0 τ0 g τ G B nn Le sn cT cs ad x) (q : ∀ g' τ' u' Le', u' ≤ u + 8 → G_bv g0 τ0 g' τ' G B nn Le' sn cT cs ad x → P_gw (d + 7) 204 22 [.ref G, .ref Le', P_zl x.1, P_un, P_z ((nn : Nat) : Int), P_z 18, P_un, P_un, P_un, P_un, P_un, P_un, P_un] [] w σ g' τ' (N + 2) u' Q) : P_gw (d + 7) 204 22 [.ref G, .ref Le, P_zl x.1, P_un, P_z ((nn : Nat) : Int), P_z 17, P_un, P_un, P_un, P_un, P_un, P_un, P_un] [] w σ g τ N u Q := by
  obtain ⟨hf, ⟨cs1, hC, hlo, hok⟩, hx, hxO, hLe⟩ := hv
  refine P_gw_lts (fun hlt => ?_)
  refine g_bc2_17 hC.1.1 hm (fun g' τ' u' hx1 hu => ?_)
  have hf' : G_fr G_R5 G_12 g τ g' τ' := G_fr_xt hlt hx1
  refine q g' τ' u' Le hu ⟨G_fr_tr hf hf', ⟨cs1, G_C_xt hlt hx1 hC, hlo, hok⟩, hx, hxO, fun h0 => ?_⟩
  have hL := hLe h0
  exact ⟨(hf' _ _ _ hL.1).1, fun j a b => ((hf' _ _ _ hL.1).2 _ (fun q => by omega) (G_nR5 _ (by omega))).trans (hL.2 j a b)⟩

theorem g_bk2_18 {d : Nat} {w : P_Lw} {σ : P_A} {g : P_Gl} {τ : P_A} {N u : Nat} {Q : P_GQ} {G : Nat} {g0 : P_Gl} {τ0 : P_A} {T nt : Nat} {tt : Int → Nat} {rT : Int → Nat} {tr : Int → Int → Nat} {cT : Int → Nat} {VV : Int → Int → Int → Int} (hT : P_gT g0 τ0 G T nt tt rT tr cT VV) {S nn : Nat} {sn : Int → Int} (hS : P_gS g0 τ0 G S nn nt sn) {B : Nat} {cs : List A_cd} {ad : Int → Nat} (hm : nn = 2) {nv : Int} (h13 : τ0 G 13 = nv) (hnv : 0 ≤ nv ∧ nv ≤ 1) {cst : Int → Int} (hcst : ∀ s, A_isO (nn : Int) s → (G_co nv sn rT VV (A_lows (A_od s) cs) (A_od s) nn) = cst s ∧ 0 ≤ cst s ∧ cst s ≤ 3000) {Le : Nat} {x : Int × Int} (hv : G_bv g0 τ0 g τ G B nn Le sn cT cs ad x) (q : ∀ g' τ' u' Le', u' ≤ u + 8 → G_bv g0 τ0 g' τ' G B nn Le' sn cT cs ad x → P_gw (d + 7) 204 22 [.ref G, .ref Le', P_zl x.1, P_un, P_z ((nn : Nat) : Int), P_z 19, P_un, P_un, P_un, P_un, P_un, P_un, P_un] [] w σ g' τ' (N + 2) u' Q) : P_gw (d + 7) 204 22 [.ref G, .ref Le, P_zl x.1, P_un, P_z ((nn : Nat) : Int), P_z 18, P_un, P_un, P_un, P_un, P_un, P_un, P_un] [] w σ g τ N u Q := by
  obtain ⟨hf, ⟨cs1, hC, hlo, hok⟩, hx, hxO, hLe⟩ := hv
  refine P_gw_lts (fun hlt => ?_)
  refine g_bc2_18 hC.1.1 hm (fun g' τ' u' hx1 hu => ?_)
  have hf' : G_fr G_R5 G_12 g τ g' τ' := G_fr_xt hlt hx1
  refine q g' τ' u' Le hu ⟨G_fr_tr hf hf', ⟨cs1, G_C_xt hlt hx1 hC, hlo, hok⟩, hx, hxO, fun h0 => ?_⟩
  have hL := hLe h0
  exact ⟨(hf' _ _ _ hL.1).1, fun j a b => ((hf' _ _ _ hL.1).2 _ (fun q => by omega) (G_nR5 _ (by omega))).trans (hL.2 j a b)⟩

theorem g_bk2_19 {d : Nat} {w : P_Lw} {σ : P_A} {g : P_Gl} {τ : P_A} {N u : Nat} {Q : P_GQ} {G : Nat} {g0 : P_Gl} {τ0 : P_A} {T nt : Nat} {tt : Int → Nat} {rT : Int → Nat} {tr : Int → Int → Nat} {cT : Int → Nat} {VV : Int → Int → Int → Int} (hT : P_gT g0 τ0 G T nt tt rT tr cT VV) {S nn : Nat} {sn : Int → Int} (hS : P_gS g0 τ0 G S nn nt sn) {B : Nat} {cs : List A_cd} {ad : Int → Nat} (hm : nn = 2) {nv : Int} (h13 : τ0 G 13 = nv) (hnv : 0 ≤ nv ∧ nv ≤ 1) {cst : Int → Int} (hcst : ∀ s, A_isO (nn : Int) s → (G_co nv sn rT VV (A_lows (A_od s) cs) (A_od s) nn) = cst s ∧ 0 ≤ cst s ∧ cst s ≤ 3000) {Le : Nat} {x : Int × Int} (hv : G_bv g0 τ0 g τ G B nn Le sn cT cs ad x) (q : ∀ g' τ' u' Le', u' ≤ u + 8 → G_bv g0 τ0 g' τ' G B nn Le' sn cT cs ad x → P_gw (d + 7) 204 22 [.ref G, .ref Le', P_zl x.1, P_un, P_z ((nn : Nat) : Int), P_z 20, P_un, P_un, P_un, P_un, P_un, P_un, P_un] [] w σ g' τ' (N + 2) u' Q) : P_gw (d + 7) 204 22 [.ref G, .ref Le, P_zl x.1, P_un, P_z ((nn : Nat) : Int), P_z 19, P_un, P_un, P_un, P_un, P_un, P_un, P_un] [] w σ g τ N u Q := by
  obtain ⟨hf, ⟨cs1, hC, hlo, hok⟩, hx, hxO, hLe⟩ := hv
  refine P_gw_lts (fun hlt => ?_)
  refine g_bc2_19 hC.1.1 hm (fun g' τ' u' hx1 hu => ?_)
  have hf' : G_fr G_R5 G_12 g τ g' τ' := G_fr_xt hlt hx1
  refine q g' τ' u' Le hu ⟨G_fr_tr hf hf', ⟨cs1, G_C_xt hlt hx1 hC, hlo, hok⟩, hx, hxO, fun h0 => ?_⟩
  have hL := hLe h0
  exact ⟨(hf' _ _ _ hL.1).1, fun j a b => ((hf' _ _ _ hL.1).2 _ (fun q => by omega) (G_nR5 _ (by omega))).trans (hL.2 j a b)⟩

theorem g_bk2_20 {d : Nat} {w : P_Lw} {σ : P_A} {g : P_Gl} {τ : P_A} {N u : Nat} {Q : P_GQ} {G : Nat} {g0 : P_Gl} {τ0 : P_A} {T nt : Nat} {tt : Int → Nat} {rT : Int → Nat} {tr : Int → Int → Nat} {cT : Int → Nat} {VV : Int → Int → Int → Int} (hT : P_gT g0 τ0 G T nt tt rT tr cT VV) {S nn : Nat} {sn : Int → Int} (hS : P_gS g0 τ0 G S nn nt sn) {B : Nat} {cs : List A_cd} {ad : Int → Nat} (hm : nn = 2) {nv : Int} (h13 : τ0 G 13 = nv) (hnv : 0 ≤ nv ∧ nv ≤ 1) {cst : Int → Int} (hcst : ∀ s, A_isO (nn : Int) s → (G_co nv sn rT VV (A_lows (A_od s) cs) (A_od s) nn) = cst s ∧ 0 ≤ cst s ∧ cst s ≤ 3000) {Le : Nat} {x : Int × Int} (hv : G_bv g0 τ0 g τ G B nn Le sn cT cs ad x) (q : ∀ g' τ' u' Le', u' ≤ u + 8 → G_bv g0 τ0 g' τ' G B nn Le' sn cT cs ad x → P_gw (d + 7) 204 22 [.ref G, .ref Le', P_zl x.1, P_un, P_z ((nn : Nat) : Int), P_z 21, P_un, P_un, P_un, P_un, P_un, P_un, P_un] [] w σ g' τ' (N + 2) u' Q) : P_gw (d + 7) 204 22 [.ref G, .ref Le, P_zl x.1, P_un, P_z ((nn : Nat) : Int), P_z 20, P_un, P_un, P_un, P_un, P_un, P_un, P_un] [] w σ g τ N u Q := by
  obtain ⟨hf, ⟨cs1, hC, hlo, hok⟩, hx, hxO, hLe⟩ := hv
  refine P_gw_lts (fun hlt => ?_)
  refine g_bc2_20 hC.1.1 hm (fun g' τ' u' hx1 hu => ?_)
  have hf' : G_fr G_R5 G_12 g τ g' τ' := G_fr_xt hlt hx1
  refine q g' τ' u' Le hu ⟨G_fr_tr hf hf', ⟨cs1, G_C_xt hlt hx1 hC, hlo, hok⟩, hx, hxO, fun h0 => ?_⟩
  have hL := hLe h0
  exact ⟨(hf' _ _ _ hL.1).1, fun j a b => ((hf' _ _ _ hL.1).2 _ (fun q => by omega) (G_nR5 _ (by omega))).trans (hL.2 j a b)⟩

theorem g_bk2_21 {d : Nat} {w : P_Lw} {σ : P_A} {g : P_Gl} {τ : P_A} {N u : Nat} {Q : P_GQ} {G : Nat} {g0 : P_Gl} {τ0 : P_A} {T nt : Nat} {tt : Int → Nat} {rT : Int → Nat} {tr : Int → Int → Nat} {cT : Int → Nat} {VV : Int → Int → Int → Int} (hT : P_gT g0 τ0 G T nt tt rT tr cT VV) {S nn : Nat} {sn : Int → Int} (hS : P_gS g0 τ0 G S nn nt sn) {B : Nat} {cs : List A_cd} {ad : Int → Nat} (hm : nn = 2) {nv : Int} (h13 : τ0 G 13 = nv) (hnv : 0 ≤ nv ∧ nv ≤ 1) {cst : Int → Int} (hcst : ∀ s, A_isO (nn : Int) s → (G_co nv sn rT VV (A_lows (A_od s) cs) (A_od s) nn) = cst s ∧ 0 ≤ cst s ∧ cst s ≤ 3000) {Le : Nat} {x : Int × Int} (hv : G_bv g0 τ0 g τ G B nn Le sn cT cs ad x) (q : ∀ g' τ' u' Le', u' ≤ u + 8 → G_bv g0 τ0 g' τ' G B nn Le' sn cT cs ad x → P_gw (d + 7) 204 22 [.ref G, .ref Le', P_zl x.1, P_un, P_z ((nn : Nat) : Int), P_z 22, P_un, P_un, P_un, P_un, P_un, P_un, P_un] [] w σ g' τ' (N + 2) u' Q) : P_gw (d + 7) 204 22 [.ref G, .ref Le, P_zl x.1, P_un, P_z ((nn : Nat) : Int), P_z 21, P_un, P_un, P_un, P_un, P_un, P_un, P_un] [] w σ g τ N u Q := by
  obtain ⟨hf, ⟨cs1, hC, hlo, hok⟩, hx, hxO, hLe⟩ := hv
  refine P_gw_lts (fun hlt => ?_)
  refine g_bc2_21 hC.1.1 hm (fun g' τ' u' hx1 hu => ?_)
  have hf' : G_fr G_R5 G_12 g τ g' τ' := G_fr_xt hlt hx1
  refine q g' τ' u' Le hu ⟨G_fr_tr hf hf', ⟨cs1, G_C_xt hlt hx1 hC, hlo, hok⟩, hx, hxO, fun h0 => ?_⟩
  have hL := hLe h0
  exact ⟨(hf' _ _ _ hL.1).1, fun j a b => ((hf' _ _ _ hL.1).2 _ (fun q => by omega) (G_nR5 _ (by omega))).trans (hL.2 j a b)⟩

theorem g_bk2_22 {d : Nat} {w : P_Lw} {σ : P_A} {g : P_Gl} {τ : P_A} {N u : Nat} {Q : P_GQ} {G : Nat} {g0 : P_Gl} {τ0 : P_A} {T nt : Nat} {tt : Int → Nat} {rT : Int → Nat} {tr : Int → Int → Nat} {cT : Int → Nat} {VV : Int → Int → Int → Int} (hT : P_gT g0 τ0 G T nt tt rT tr cT VV) {S nn : Nat} {sn : Int → Int} (hS : P_gS g0 τ0 G S nn nt sn) {B : Nat} {cs : List A_cd} {ad : Int → Nat} (hm : nn = 2) {nv : Int} (h13 : τ0 G 13 = nv) (hnv : 0 ≤ nv ∧ nv ≤ 1) {cst : Int → Int} (hcst : ∀ s, A_isO (nn : Int) s → (G_co nv sn rT VV (A_lows (A_od s) cs) (A_od s) nn) = cst s ∧ 0 ≤ cst s ∧ cst s ≤ 3000) {Le : Nat} {x : Int × Int} (hv : G_bv g0 τ0 g τ G B nn Le sn cT cs ad x) (q : ∀ g' τ' u' Le', u' ≤ u + 8 → G_bv g0 τ0 g' τ' G B nn Le' sn cT cs ad x → P_gw (d + 7) 204 22 [.ref G, .ref Le', P_zl x.1, P_un, P_z ((nn : Nat) : Int), P_z 23, P_un, P_un, P_un, P_un, P_un, P_un, P_un] [] w σ g' τ' (N + 2) u' Q) : P_gw (d + 7) 204 22 [.ref G, .ref Le, P_zl x.1, P_un, P_z ((nn : Nat) : Int), P_z 22, P_un, P_un, P_un, P_un, P_un, P_un, P_un] [] w σ g τ N u Q := by
  obtain ⟨hf, ⟨cs1, hC, hlo, hok⟩, hx, hxO, hLe⟩ := hv
  refine P_gw_lts (fun hlt => ?_)
  refine g_bc2_22 hC.1.1 hm (fun g' τ' u' hx1 hu => ?_)
  have hf' : G_fr G_R5 G_12 g τ g' τ' := G_fr_xt hlt hx1
  refine q g' τ' u' Le hu ⟨G_fr_tr hf hf', ⟨cs1, G_C_xt hlt hx1 hC, hlo, hok⟩, hx, hxO, fun h0 => ?_⟩
  have hL := hLe h0
  exact ⟨(hf' _ _ _ hL.1).1, fun j a b => ((hf' _ _ _ hL.1).2 _ (fun q => by omega) (G_nR5 _ (by omega))).trans (hL.2 j a b)⟩

theorem g_bk2_23 {d : Nat} {w : P_Lw} {σ : P_A} {g : P_Gl} {τ : P_A} {N u : Nat} {Q : P_GQ} {G : Nat} {g0 : P_Gl} {τ0 : P_A} {T nt : Nat} {tt : Int → Nat} {rT : Int → Nat} {tr : Int → Int → Nat} {cT : Int → Nat} {VV : Int → Int → Int → Int} (hT : P_gT g0 τ0 G T nt tt rT tr cT VV) {S nn : Nat} {sn : Int → Int} (hS : P_gS g0 τ0 G S nn nt sn) {B : Nat} {cs : List A_cd} {ad : Int → Nat} (hm : nn = 2) {nv : Int} (h13 : τ0 G 13 = nv) (hnv : 0 ≤ nv ∧ nv ≤ 1) {cst : Int → Int} (hcst : ∀ s, A_isO (nn : Int) s → (G_co nv sn rT VV (A_lows (A_od s) cs) (A_od s) nn) = cst s ∧ 0 ≤ cst s ∧ cst s ≤ 3000) {Le : Nat} {x : Int × Int} (hv : G_bv g0 τ0 g τ G B nn Le sn cT cs ad x) (q : ∀ g' τ' u' Le', u' ≤ u + 8 → G_bv g0 τ0 g' τ' G B nn Le' sn cT cs ad x → P_gw (d + 7) 204 22 [.ref G, .ref Le', P_zl x.1, P_un, P_z ((nn : Nat) : Int), P_z 24, P_un, P_un, P_un, P_un, P_un, P_un, P_un] [] w σ g' τ' (N + 2) u' Q) : P_gw (d + 7) 204 22 [.ref G, .ref Le, P_zl x.1, P_un, P_z ((nn : Nat) : Int), P_z 23, P_un, P_un, P_un, P_un, P_un, P_un, P_un] [] w σ g τ N u Q := by
  obtain ⟨hf, ⟨cs1, hC, hlo, hok⟩, hx, hxO, hLe⟩ := hv
  refine P_gw_lts (fun hlt => ?_)
  refine g_bc2_23 hC.1.1 hm (fun g' τ' u' hx1 hu => ?_)
  have hf' : G_fr G_R5 G_12 g τ g' τ' := G_fr_xt hlt hx1
  refine q g' τ' u' Le hu ⟨G_fr_tr hf hf', ⟨cs1, G_C_xt hlt hx1 hC, hlo, hok⟩, hx, hxO, fun h0 => ?_⟩
  have hL := hLe h0
  exact ⟨(hf' _ _ _ hL.1).1, fun j a b => ((hf' _ _ _ hL.1).2 _ (fun q => by omega) (G_nR5 _ (by omega))).trans (hL.2 j a b)⟩

theorem g_bk2_24 {d : Nat} {w : P_Lw} {σ : P_A} {g : P_Gl} {τ : P_A} {N u : Nat} {Q : P_GQ} {G : Nat} {g0 : P_Gl} {τ0 : P_A} {T nt : Nat} {tt : Int → Nat} {rT : Int → Nat} {tr : Int → Int → Nat} {cT : Int → Nat} {VV : Int → Int → Int → Int} (hT : P_gT g0 τ0 G T nt tt rT tr cT VV) {S nn : Nat} {sn : Int → Int} (hS : P_gS g0 τ0 G S nn nt sn) {B : Nat} {cs : List A_cd} {ad : Int → Nat} (hm : nn = 2) {nv : Int} (h13 : τ0 G 13 = nv) (hnv : 0 ≤ nv ∧ nv ≤ 1) {cst : Int → Int} (hcst : ∀ s, A_isO (nn : Int) s → (G_co nv sn rT VV (A_lows (A_od s) cs) (A_od s) nn) = cst s ∧ 0 ≤ cst s ∧ cst s ≤ 3000) {Le : Nat} {x : Int × Int} (hv : G_bv g0 τ0 g τ G B nn Le sn cT cs ad x) (q : ∀ g' τ' u' Le', u' ≤ u + 8 → G_bv g0 τ0 g' τ' G B nn Le' sn cT cs ad x → P_gw (d + 7) 204 22 [.ref G, .ref Le', P_zl x.1, P_un, P_z ((nn : Nat) : Int), P_z 25, P_un, P_un, P_un, P_un, P_un, P_un, P_un] [] w σ g' τ' (N + 2) u' Q) : P_gw (d + 7) 204 22 [.ref G, .ref Le, P_zl x.1, P_un, P_z ((nn : Nat) : Int), P_z 24, P_un, P_un, P_un, P_un, P_un, P_un, P_un] [] w σ g τ N u Q := by
  obtain ⟨hf, ⟨cs1, hC, hlo, hok⟩, hx, hxO, hLe⟩ := hv
  refine P_gw_lts (fun hlt => ?_)
  refine g_bc2_24 hC.1.1 hm (fun g' τ' u' hx1 hu => ?_)
  have hf' : G_fr G_R5 G_12 g τ g' τ' := G_fr_xt hlt hx1
  refine q g' τ' u' Le hu ⟨G_fr_tr hf hf', ⟨cs1, G_C_xt hlt hx1 hC, hlo, hok⟩, hx, hxO, fun h0 => ?_⟩
  have hL := hLe h0
  exact ⟨(hf' _ _ _ hL.1).1, fun j a b => ((hf' _ _ _ hL.1).2 _ (fun q => by omega) (G_nR5 _ (by omega))).trans (hL.2 j a b)⟩

theorem g_bk2_25 {d : Nat} {w : P_Lw} {σ : P_A} {g : P_Gl} {τ : P_A} {N u : Nat} {Q : P_GQ} {G : Nat} {g0 : P_Gl} {τ0 : P_A} {T nt : Nat} {tt : Int → Nat} {rT : Int → Nat} {tr : Int → Int → Nat} {cT : Int → Nat} {VV : Int → Int → Int → Int} (hT : P_gT g0 τ0 G T nt tt rT tr cT VV) {S nn : Nat} {sn : Int → Int} (hS : P_gS g0 τ0 G S nn nt sn) {B : Nat} {cs : List A_cd} {ad : Int → Nat} (hm : nn = 2) {nv : Int} (h13 : τ0 G 13 = nv) (hnv : 0 ≤ nv ∧ nv ≤ 1) {cst : Int → Int} (hcst : ∀ s, A_isO (nn : Int) s → (G_co nv sn rT VV (A_lows (A_od s) cs) (A_od s) nn) = cst s ∧ 0 ≤ cst s ∧ cst s ≤ 3000) {Le : Nat} {x : Int × Int} (hv : G_bv g0 τ0 g τ G B nn Le sn cT cs ad x) (q : ∀ g' τ' u' Le', u' ≤ u + 8 → G_bv g0 τ0 g' τ' G B nn Le' sn cT cs ad x → P_gw (d + 7) 204 22 [.ref G, .ref Le', P_zl x.1, P_un, P_z ((nn : Nat) : Int), P_z 26, P_un, P_un, P_un, P_un, P_un, P_un, P_un] [] w σ g' τ' (N + 2) u' Q) : P_gw (d + 7) 204 22 [.ref G, .ref Le, P_zl x.1, P_un, P_z ((nn : Nat) : Int), P_z 25, P_un, P_un, P_un, P_un, P_un, P_un, P_un] [] w σ g τ N u Q := by
  obtain ⟨hf, ⟨cs1, hC, hlo, hok⟩, hx, hxO, hLe⟩ := hv
  refine P_gw_lts (fun hlt => ?_)
  refine g_bc2_25 hC.1.1 hm (fun g' τ' u' hx1 hu => ?_)
  have hf' : G_fr G_R5 G_12 g τ g' τ' := G_fr_xt hlt hx1
  refine q g' τ' u' Le hu ⟨G_fr_tr hf hf', ⟨cs1, G_C_xt hlt hx1 hC, hlo, hok⟩, hx, hxO, fun h0 => ?_⟩
  have hL := hLe h0
  exact ⟨(hf' _ _ _ hL.1).1, fun j a b => ((hf' _ _ _ hL.1).2 _ (fun q => by omega) (G_nR5 _ (by omega))).trans (hL.2 j a b)⟩

theorem g_bk2_26 {d : Nat} {w : P_Lw} {σ : P_A} {g : P_Gl} {τ : P_A} {N u : Nat} {Q : P_GQ} {G : Nat} {g0 : P_Gl} {τ0 : P_A} {T nt : Nat} {tt : Int → Nat} {rT : Int → Nat} {tr : Int → Int → Nat} {cT : Int → Nat} {VV : Int → Int → Int → Int} (hT : P_gT g0 τ0 G T nt tt rT tr cT VV) {S nn : Nat} {sn : Int → Int} (hS : P_gS g0 τ0 G S nn nt sn) {B : Nat} {cs : List A_cd} {ad : Int → Nat} (hm : nn = 2) {nv : Int} (h13 : τ0 G 13 = nv) (hnv : 0 ≤ nv ∧ nv ≤ 1) {cst : Int → Int} (hcst : ∀ s, A_isO (nn : Int) s → (G_co nv sn rT VV (A_lows (A_od s) cs) (A_od s) nn) = cst s ∧ 0 ≤ cst s ∧ cst s ≤ 3000) {Le : Nat} {x : Int × Int} (hv : G_bv g0 τ0 g τ G B nn Le sn cT cs ad x) (q : ∀ g' τ' u' Le', u' ≤ u + 8 → G_bv g0 τ0 g' τ' G B nn Le' sn cT cs ad x → P_gw (d + 7) 204 22 [.ref G, .ref Le', P_zl x.1, P_un, P_z ((nn : Nat) : Int), P_z 27, P_un, P_un, P_un, P_un, P_un, P_un, P_un] [] w σ g' τ' (N + 2) u' Q) : P_gw (d + 7) 204 22 [.ref G, .ref Le, P_zl x.1, P_un, P_z ((nn : Nat) : Int), P_z 26, P_un, P_un, P_un, P_un, P_un, P_un, P_un] [] w σ g τ N u Q := by
  obtain ⟨hf, ⟨cs1, hC, hlo, hok⟩, hx, hxO, hLe⟩ := hv
  refine P_gw_lts (fun hlt => ?_)
  refine g_bc2_26 hC.1.1 hm (fun g' τ' u' hx1 hu => ?_)
  have hf' : G_fr G_R5 G_12 g τ g' τ' := G_fr_xt hlt hx1
  refine q g' τ' u' Le hu ⟨G_fr_tr hf hf', ⟨cs1, G_C_xt hlt hx1 hC, hlo, hok⟩, hx, hxO, fun h0 => ?_⟩
  have hL := hLe h0
  exact ⟨(hf' _ _ _ hL.1).1, fun j a b => ((hf' _ _ _ hL.1).2 _ (fun q => by omega) (G_nR5 _ (by omega))).trans (hL.2 j a b)⟩

theorem g_bk3_0 {d : Nat} {w : P_Lw} {σ : P_A} {g : P_Gl} {τ : P_A} {N u : Nat} {Q : P_GQ} {G : Nat} {g0 : P_Gl} {τ0 : P_A} {T nt : Nat} {tt : Int → Nat} {rT : Int → Nat} {tr : Int → Int → Nat} {cT : Int → Nat} {VV : Int → Int → Int → Int} (hT : P_gT g0 τ0 G T nt tt rT tr cT VV) {S nn : Nat} {sn : Int → Int} (hS : P_gS g0 τ0 G S nn nt sn) {B : Nat} {cs : List A_cd} {ad : Int → Nat} (hm : nn = 3) {nv : Int} (h13 : τ0 G 13 = nv) (hnv : 0 ≤ nv ∧ nv ≤ 1) {cst : Int → Int} (hcst : ∀ s, A_isO (nn : Int) s → (G_co nv sn rT VV (A_lows (A_od s) cs) (A_od s) nn) = cst s ∧ 0 ≤ cst s ∧ cst s ≤ 3000) {Le : Nat} {x : Int × Int} (hv : G_bv g0 τ0 g τ G B nn Le sn cT cs ad x) (q : ∀ g' τ' u' Le', u' ≤ u + 8 → G_bv g0 τ0 g' τ' G B nn Le' sn cT cs ad x → P_gw (d + 7) 204 22 [.ref G, .ref Le', P_zl x.1, P_un, P_z ((nn : Nat) : Int), P_z 1, P_un, P_un, P_un, P_un, P_un, P_un, P_un] [] w σ g' τ' (N + 2) u' Q) : P_gw (d + 7) 204 22 [.ref G, .ref Le, P_zl x.1, P_un, P_z ((nn : Nat) : Int), P_z 0, P_un, P_un, P_un, P_un, P_un, P_un, P_un] [] w σ g τ N u Q := by
  obtain ⟨hf, ⟨cs1, hC, hlo, hok⟩, hx, hxO, hLe⟩ := hv
  refine P_gw_lts (fun hlt => ?_)
  refine g_bc3_0 hC.1.1 hm (fun g' τ' u' hx1 hu => ?_)
  have hf' : G_fr G_R5 G_12 g τ g' τ' := G_fr_xt hlt hx1
  refine q g' τ' u' Le hu ⟨G_fr_tr hf hf', ⟨cs1, G_C_xt hlt hx1 hC, hlo, hok⟩, hx, hxO, fun h0 => ?_⟩
  have hL := hLe h0
  exact ⟨(hf' _ _ _ hL.1).1, fun j a b => ((hf' _ _ _ hL.1).2 _ (fun q => by omega) (G_nR5 _ (by omega))).trans (hL.2 j a b)⟩

theorem g_bk3_1 {d : Nat} {w : P_Lw} {σ : P_A} {g : P_Gl} {τ : P_A} {N u : Nat} {Q : P_GQ} {G : Nat} {g0 : P_Gl} {τ0 : P_A} {T nt : Nat} {tt : Int → Nat} {rT : Int → Nat} {tr : Int → Int → Nat} {cT : Int → Nat} {VV : Int → Int → Int → Int} (hT : P_gT g0 τ0 G T nt tt rT tr cT VV) {S nn : Nat} {sn : Int → Int} (hS : P_gS g0 τ0 G S nn nt sn) {B : Nat} {cs : List A_cd} {ad : Int → Nat} (hm : nn = 3) {nv : Int} (h13 : τ0 G 13 = nv) (hnv : 0 ≤ nv ∧ nv ≤ 1) {cst : Int → Int} (hcst : ∀ s, A_isO (nn : Int) s → (G_co nv sn rT VV (A_lows (A_od s) cs) (A_od s) nn) = cst s ∧ 0 ≤ cst s ∧ cst s ≤ 3000) {Le : Nat} {x : Int × Int} (hv : G_bv g0 τ0 g τ G B nn Le sn cT cs ad x) (q : ∀ g' τ' u' Le', u' ≤ u + 8 → G_bv g0 τ0 g' τ' G B nn Le' sn cT cs ad x → P_gw (d + 7) 204 22 [.ref G, .ref Le', P_zl x.1, P_un, P_z ((nn : Nat) : Int), P_z 2, P_un, P_un, P_un, P_un, P_un, P_un, P_un] [] w σ g' τ' (N + 2) u' Q) : P_gw (d + 7) 204 22 [.ref G, .ref Le, P_zl x.1, P_un, P_z ((nn : Nat) : Int), P_z 1, P_un, P_un, P_un, P_un, P_un, P_un, P_un] [] w σ g τ N u Q := by
  obtain ⟨hf, ⟨cs1, hC, hlo, hok⟩, hx, hxO, hLe⟩ := hv
  refine P_gw_lts (fun hlt => ?_)
  refine g_bc3_1 hC.1.1 hm (fun g' τ' u' hx1 hu => ?_)
  have hf' : G_fr G_R5 G_12 g τ g' τ' := G_fr_xt hlt hx1
  refine q g' τ' u' Le hu ⟨G_fr_tr hf hf', ⟨cs1, G_C_xt hlt hx1 hC, hlo, hok⟩, hx, hxO, fun h0 => ?_⟩
  have hL := hLe h0
  exact ⟨(hf' _ _ _ hL.1).1, fun j a b => ((hf' _ _ _ hL.1).2 _ (fun q => by omega) (G_nR5 _ (by omega))).trans (hL.2 j a b)⟩

theorem g_bk3_2 {d : Nat} {w : P_Lw} {σ : P_A} {g : P_Gl} {τ : P_A} {N u : Nat} {Q : P_GQ} {G : Nat} {g0 : P_Gl} {τ0 : P_A} {T nt : Nat} {tt : Int → Nat} {rT : Int → Nat} {tr : Int → Int → Nat} {cT : Int → Nat} {VV : Int → Int → Int → Int} (hT : P_gT g0 τ0 G T nt tt rT tr cT VV) {S nn : Nat} {sn : Int → Int} (hS : P_gS g0 τ0 G S nn nt sn) {B : Nat} {cs : List A_cd} {ad : Int → Nat} (hm : nn = 3) {nv : Int} (h13 : τ0 G 13 = nv) (hnv : 0 ≤ nv ∧ nv ≤ 1) {cst : Int → Int} (hcst : ∀ s, A_isO (nn : Int) s → (G_co nv sn rT VV (A_lows (A_od s) cs) (A_od s) nn) = cst s ∧ 0 ≤ cst s ∧ cst s ≤ 3000) {Le : Nat} {x : Int × Int} (hv : G_bv g0 τ0 g τ G B nn Le sn cT cs ad x) (q : ∀ g' τ' u' Le', u' ≤ u + 8 → G_bv g0 τ0 g' τ' G B nn Le' sn cT cs ad x → P_gw (d + 7) 204 22 [.ref G, .ref Le', P_zl x.1, P_un, P_z ((nn : Nat) : Int), P_z 3, P_un, P_un, P_un, P_un, P_un, P_un, P_un] [] w σ g' τ' (N + 2) u' Q) : P_gw (d + 7) 204 22 [.ref G, .ref Le, P_zl x.1, P_un, P_z ((nn : Nat) : Int), P_z 2, P_un, P_un, P_un, P_un, P_un, P_un, P_un] [] w σ g τ N u Q := by
  obtain ⟨hf, ⟨cs1, hC, hlo, hok⟩, hx, hxO, hLe⟩ := hv
  refine P_gw_lts (fun hlt => ?_)
  refine g_bc3_2 hC.1.1 hm (fun g' τ' u' hx1 hu => ?_)
  have hf' : G_fr G_R5 G_12 g τ g' τ' := G_fr_xt hlt hx1
  refine q g' τ' u' Le hu ⟨G_fr_tr hf hf', ⟨cs1, G_C_xt hlt hx1 hC, hlo, hok⟩, hx, hxO, fun h0 => ?_⟩
  have hL := hLe h0
  exact ⟨(hf' _ _ _ hL.1).1, fun j a b => ((hf' _ _ _ hL.1).2 _ (fun q => by omega) (G_nR5 _ (by omega))).trans (hL.2 j a b)⟩

theorem g_bk3_3 {d : Nat} {w : P_Lw} {σ : P_A} {g : P_Gl} {τ : P_A} {N u : Nat} {Q : P_GQ} {G : Nat} {g0 : P_Gl} {τ0 : P_A} {T nt : Nat} {tt : Int → Nat} {rT : Int → Nat} {tr : Int → Int → Nat} {cT : Int → Nat} {VV : Int → Int → Int → Int} (hT : P_gT g0 τ0 G T nt tt rT tr cT VV) {S nn : Nat} {sn : Int → Int} (hS : P_gS g0 τ0 G S nn nt sn) {B : Nat} {cs : List A_cd} {ad : Int → Nat} (hm : nn = 3) {nv : Int} (h13 : τ0 G 13 = nv) (hnv : 0 ≤ nv ∧ nv ≤ 1) {cst : Int → Int} (hcst : ∀ s, A_isO (nn : Int) s → (G_co nv sn rT VV (A_lows (A_od s) cs) (A_od s) nn) = cst s ∧ 0 ≤ cst s ∧ cst s ≤ 3000) {Le : Nat} {x : Int × Int} (hv : G_bv g0 τ0 g τ G B nn Le sn cT cs ad x) (q : ∀ g' τ' u' Le', u' ≤ u + 8 → G_bv g0 τ0 g' τ' G B nn Le' sn cT cs ad x → P_gw (d + 7) 204 22 [.ref G, .ref Le', P_zl x.1, P_un, P_z ((nn : Nat) : Int), P_z 4, P_un, P_un, P_un, P_un, P_un, P_un, P_un] [] w σ g' τ' (N + 2) u' Q) : P_gw (d + 7) 204 22 [.ref G, .ref Le, P_zl x.1, P_un, P_z ((nn : Nat) : Int), P_z 3, P_un, P_un, P_un, P_un, P_un, P_un, P_un] [] w σ g τ N u Q := by
  obtain ⟨hf, ⟨cs1, hC, hlo, hok⟩, hx, hxO, hLe⟩ := hv
  refine P_gw_lts (fun hlt => ?_)
  refine g_bc3_3 hC.1.1 hm (fun g' τ' u' hx1 hu => ?_)
  have hf' : G_fr G_R5 G_12 g τ g' τ' := G_fr_xt hlt hx1
  refine q g' τ' u' Le hu ⟨G_fr_tr hf hf', ⟨cs1, G_C_xt hlt hx1 hC, hlo, hok⟩, hx, hxO, fun h0 => ?_⟩
  have hL := hLe h0
  exact ⟨(hf' _ _ _ hL.1).1, fun j a b => ((hf' _ _ _ hL.1).2 _ (fun q => by omega) (G_nR5 _ (by omega))).trans (hL.2 j a b)⟩

theorem g_bk3_4 {d : Nat} {w : P_Lw} {σ : P_A} {g : P_Gl} {τ : P_A} {N u : Nat} {Q : P_GQ} {G : Nat} {g0 : P_Gl} {τ0 : P_A} {T nt : Nat} {tt : Int → Nat} {rT : Int → Nat} {tr : Int → Int → Nat} {cT : Int → Nat} {VV : Int → Int → Int → Int} (hT : P_gT g0 τ0 G T nt tt rT tr cT VV) {S nn : Nat} {sn : Int → Int} (hS : P_gS g0 τ0 G S nn nt sn) {B : Nat} {cs : List A_cd} {ad : Int → Nat} (hm : nn = 3) {nv : Int} (h13 : τ0 G 13 = nv) (hnv : 0 ≤ nv ∧ nv ≤ 1) {cst : Int → Int} (hcst : ∀ s, A_isO (nn : Int) s → (G_co nv sn rT VV (A_lows (A_od s) cs) (A_od s) nn) = cst s ∧ 0 ≤ cst s ∧ cst s ≤ 3000) {Le : Nat} {x : Int × Int} (hv : G_bv g0 τ0 g τ G B nn Le sn cT cs ad x) (q : ∀ g' τ' u' Le', u' ≤ u + 8 → G_bv g0 τ0 g' τ' G B nn Le' sn cT cs ad x → P_gw (d + 7) 204 22 [.ref G, .ref Le', P_zl x.1, P_un, P_z ((nn : Nat) : Int), P_z 5, P_un, P_un, P_un, P_un, P_un, P_un, P_un] [] w σ g' τ' (N + 2) u' Q) : P_gw (d + 7) 204 22 [.ref G, .ref Le, P_zl x.1, P_un, P_z ((nn : Nat) : Int), P_z 4, P_un, P_un, P_un, P_un, P_un, P_un, P_un] [] w σ g τ N u Q := by
  obtain ⟨hf, ⟨cs1, hC, hlo, hok⟩, hx, hxO, hLe⟩ := hv
  refine P_gw_lts (fun hlt => ?_)
  refine g_bc3_4 hC.1.1 hm (fun g' τ' u' hx1 hu => ?_)
  have hf' : G_fr G_R5 G_12 g τ g' τ' := G_fr_xt hlt hx1
  refine q g' τ' u' Le hu ⟨G_fr_tr hf hf', ⟨cs1, G_C_xt hlt hx1 hC, hlo, hok⟩, hx, hxO, fun h0 => ?_⟩
  have hL := hLe h0
  exact ⟨(hf' _ _ _ hL.1).1, fun j a b => ((hf' _ _ _ hL.1).2 _ (fun q => by omega) (G_nR5 _ (by omega))).trans (hL.2 j a b)⟩

theorem g_bk3_5 {d : Nat} {w : P_Lw} {σ : P_A} {g : P_Gl} {τ : P_A} {N u : Nat} {Q : P_GQ} {G : Nat} {g0 : P_Gl} {τ0 : P_A} {T nt : Nat} {tt : Int → Nat} {rT : Int → Nat} {tr : Int → Int → Nat} {cT : Int → Nat} {VV : Int → Int → Int → Int} (hT : P_gT g0 τ0 G T nt tt rT tr cT VV) {S nn : Nat} {sn : Int → Int} (hS : P_gS g0 τ0 G S nn nt sn) {B : Nat} {cs : List A_cd} {ad : Int → Nat} (hm : nn = 3) {nv : Int} (h13 : τ0 G 13 = nv) (hnv : 0 ≤ nv ∧ nv ≤ 1) {cst : Int → Int} (hcst : ∀ s, A_isO (nn : Int) s → (G_co nv sn rT VV (A_lows (A_od s) cs) (A_od s) nn) = cst s ∧ 0 ≤ cst s ∧ cst s ≤ 3000) {Le : Nat} {x : Int × Int} (hv : G_bv g0 τ0 g τ G B nn Le sn cT cs ad x) (q : ∀ g' τ' u' Le', u' ≤ u + 8 → G_bv g0 τ0 g' τ' G B nn Le' sn cT cs ad (A_bt cst 0 x) → P_gw (d + 7) 204 22 [.ref G, .ref Le', P_zl (A_bt cst 0 x).1, P_un, P_z ((nn : Nat) : Int), P_z 6, P_un, P_un, P_un, P_un, P_un, P_un, P_un] [] w σ g' τ' (N + 2) u' Q) : P_gw (d + 7) 204 22 [.ref G, .ref Le, P_zl x.1, P_un, P_z ((nn : Nat) : Int), P_z 5, P_un, P_un, P_un, P_un, P_un, P_un, P_un] [] w σ g τ N u Q := by
  obtain ⟨hf, ⟨cs1, hC, hlo, hok⟩, hx, hxO, hLe⟩ := hv
  have hsO : A_isO (nn : Int) 0 := by unfold A_isO; omega
  have hcs := hcst 0 hsO
  have hC1 := hC
  refine P_gw_lts (fun hlt => ?_)
  refine g_bc3_5 (P_gT_fr hf (fun r a b => by unfold G_R5; omega) (by unfold G_12; omega) hT) (P_gS_fr hf ⟨G_nR5 _ (by omega), G_nR5 _ (by omega)⟩ (by unfold G_12; omega) hS) hC hok hm (((hf G _ _ hT.1.1).2 13 (fun _ => by unfold G_12; omega) (G_nR5 _ (by omega))).trans h13) hnv hx (by rw [hlo]; rw [hcs.1]; exact hcs.2) (fun g' τ' u' hu hf' hC' hO' => ?_)
  rw [hlo, hcs.1]
  rw [hlo] at hC'
  have hcarry : ∃ cs1, P_gC g' τ' G B cs1 ad ∧ (∀ od, A_lows od cs1 = A_lows od cs) ∧ ∀ y ∈ cs1, P_gok nn sn cT y := ⟨_, hC', fun od => G_lows_lows, hlo _ ▸ G_ok_lows hok⟩
  refine ⟨fun hl => ?_, fun hl => ?_⟩
  · have e := G_bt_t (cst := cst) (s := 0) (x := x) hl
    rw [e] at q
    exact q g' τ' u' (N + 1) hu ⟨G_fr_tr hf hf', hcarry, ⟨by simp only; omega, hcs.2.2⟩, hsO, fun _ => ⟨hO'.2.1, fun j a b => (hO'.2.2.1 j a b).1⟩⟩
  · have e := G_bt_f (cst := cst) (s := 0) (x := x) hl
    rw [e] at q
    refine q g' τ' u' Le hu ⟨G_fr_tr hf hf', hcarry, hx, hxO, fun h0 => ?_⟩
    have hL := hLe h0
    exact ⟨(hf' _ _ _ hL.1).1, fun j a b => ((hf' _ _ _ hL.1).2 _ (fun q => by omega) (G_nR5 _ (by omega))).trans (hL.2 j a b)⟩

theorem g_bk3_6 {d : Nat} {w : P_Lw} {σ : P_A} {g : P_Gl} {τ : P_A} {N u : Nat} {Q : P_GQ} {G : Nat} {g0 : P_Gl} {τ0 : P_A} {T nt : Nat} {tt : Int → Nat} {rT : Int → Nat} {tr : Int → Int → Nat} {cT : Int → Nat} {VV : Int → Int → Int → Int} (hT : P_gT g0 τ0 G T nt tt rT tr cT VV) {S nn : Nat} {sn : Int → Int} (hS : P_gS g0 τ0 G S nn nt sn) {B : Nat} {cs : List A_cd} {ad : Int → Nat} (hm : nn = 3) {nv : Int} (h13 : τ0 G 13 = nv) (hnv : 0 ≤ nv ∧ nv ≤ 1) {cst : Int → Int} (hcst : ∀ s, A_isO (nn : Int) s → (G_co nv sn rT VV (A_lows (A_od s) cs) (A_od s) nn) = cst s ∧ 0 ≤ cst s ∧ cst s ≤ 3000) {Le : Nat} {x : Int × Int} (hv : G_bv g0 τ0 g τ G B nn Le sn cT cs ad x) (q : ∀ g' τ' u' Le', u' ≤ u + 8 → G_bv g0 τ0 g' τ' G B nn Le' sn cT cs ad x → P_gw (d + 7) 204 22 [.ref G, .ref Le', P_zl x.1, P_un, P_z ((nn : Nat) : Int), P_z 7, P_un, P_un, P_un, P_un, P_un, P_un, P_un] [] w σ g' τ' (N + 2) u' Q) : P_gw (d + 7) 204 22 [.ref G, .ref Le, P_zl x.1, P_un, P_z ((nn : Nat) : Int), P_z 6, P_un, P_un, P_un, P_un, P_un, P_un, P_un] [] w σ g τ N u Q := by
  obtain ⟨hf, ⟨cs1, hC, hlo, hok⟩, hx, hxO, hLe⟩ := hv
  refine P_gw_lts (fun hlt => ?_)
  refine g_bc3_6 hC.1.1 hm (fun g' τ' u' hx1 hu => ?_)
  have hf' : G_fr G_R5 G_12 g τ g' τ' := G_fr_xt hlt hx1
  refine q g' τ' u' Le hu ⟨G_fr_tr hf hf', ⟨cs1, G_C_xt hlt hx1 hC, hlo, hok⟩, hx, hxO, fun h0 => ?_⟩
  have hL := hLe h0
  exact ⟨(hf' _ _ _ hL.1).1, fun j a b => ((hf' _ _ _ hL.1).2 _ (fun q => by omega) (G_nR5 _ (by omega))).trans (hL.2 j a b)⟩

theorem g_bk3_7 {d : Nat} {w : P_Lw} {σ : P_A} {g : P_Gl} {τ : P_A} {N u : Nat} {Q : P_GQ} {G : Nat} {g0 : P_Gl} {τ0 : P_A} {T nt : Nat} {tt : Int → Nat} {rT : Int → Nat} {tr : Int → Int → Nat} {cT : Int → Nat} {VV : Int → Int → Int → Int} (hT : P_gT g0 τ0 G T nt tt rT tr cT VV) {S nn : Nat} {sn : Int → Int} (hS : P_gS g0 τ0 G S nn nt sn) {B : Nat} {cs : List A_cd} {ad : Int → Nat} (hm : nn = 3) {nv : Int} (h13 : τ0 G 13 = nv) (hnv : 0 ≤ nv ∧ nv ≤ 1) {cst : Int → Int} (hcst : ∀ s, A_isO (nn : Int) s → (G_co nv sn rT VV (A_lows (A_od s) cs) (A_od s) nn) = cst s ∧ 0 ≤ cst s ∧ cst s ≤ 3000) {Le : Nat} {x : Int × Int} (hv : G_bv g0 τ0 g τ G B nn Le sn cT cs ad x) (q : ∀ g' τ' u' Le', u' ≤ u + 8 → G_bv g0 τ0 g' τ' G B nn Le' sn cT cs ad (A_bt cst 3 x) → P_gw (d + 7) 204 22 [.ref G, .ref Le', P_zl (A_bt cst 3 x).1, P_un, P_z ((nn : Nat) : Int), P_z 8, P_un, P_un, P_un, P_un, P_un, P_un, P_un] [] w σ g' τ' (N + 2) u' Q) : P_gw (d + 7) 204 22 [.ref G, .ref Le, P_zl x.1, P_un, P_z ((nn : Nat) : Int), P_z 7, P_un, P_un, P_un, P_un, P_un, P_un, P_un] [] w σ g τ N u Q := by
  obtain ⟨hf, ⟨cs1, hC, hlo, hok⟩, hx, hxO, hLe⟩ := hv
  have hsO : A_isO (nn : Int) 3 := by unfold A_isO; omega
  have hcs := hcst 3 hsO
  have hC1 := hC
  refine P_gw_lts (fun hlt => ?_)
  refine g_bc3_7 (P_gT_fr hf (fun r a b => by unfold G_R5; omega) (by unfold G_12; omega) hT) (P_gS_fr hf ⟨G_nR5 _ (by omega), G_nR5 _ (by omega)⟩ (by unfold G_12; omega) hS) hC hok hm (((hf G _ _ hT.1.1).2 13 (fun _ => by unfold G_12; omega) (G_nR5 _ (by omega))).trans h13) hnv hx (by rw [hlo]; rw [hcs.1]; exact hcs.2) (fun g' τ' u' hu hf' hC' hO' => ?_)
  rw [hlo, hcs.1]
  rw [hlo] at hC'
  have hcarry : ∃ cs1, P_gC g' τ' G B cs1 ad ∧ (∀ od, A_lows od cs1 = A_lows od cs) ∧ ∀ y ∈ cs1, P_gok nn sn cT y := ⟨_, hC', fun od => G_lows_lows, hlo _ ▸ G_ok_lows hok⟩
  refine ⟨fun hl => ?_, fun hl => ?_⟩
  · have e := G_bt_t (cst := cst) (s := 3) (x := x) hl
    rw [e] at q
    exact q g' τ' u' (N + 1) hu ⟨G_fr_tr hf hf', hcarry, ⟨by simp only; omega, hcs.2.2⟩, hsO, fun _ => ⟨hO'.2.1, fun j a b => (hO'.2.2.1 j a b).1⟩⟩
  · have e := G_bt_f (cst := cst) (s := 3) (x := x) hl
    rw [e] at q
    refine q g' τ' u' Le hu ⟨G_fr_tr hf hf', hcarry, hx, hxO, fun h0 => ?_⟩
    have hL := hLe h0
    exact ⟨(hf' _ _ _ hL.1).1, fun j a b => ((hf' _ _ _ hL.1).2 _ (fun q => by omega) (G_nR5 _ (by omega))).trans (hL.2 j a b)⟩

theorem g_bk3_8 {d : Nat} {w : P_Lw} {σ : P_A} {g : P_Gl} {τ : P_A} {N u : Nat} {Q : P_GQ} {G : Nat} {g0 : P_Gl} {τ0 : P_A} {T nt : Nat} {tt : Int → Nat} {rT : Int → Nat} {tr : Int → Int → Nat} {cT : Int → Nat} {VV : Int → Int → Int → Int} (hT : P_gT g0 τ0 G T nt tt rT tr cT VV) {S nn : Nat} {sn : Int → Int} (hS : P_gS g0 τ0 G S nn nt sn) {B : Nat} {cs : List A_cd} {ad : Int → Nat} (hm : nn = 3) {nv : Int} (h13 : τ0 G 13 = nv) (hnv : 0 ≤ nv ∧ nv ≤ 1) {cst : Int → Int} (hcst : ∀ s, A_isO (nn : Int) s → (G_co nv sn rT VV (A_lows (A_od s) cs) (A_od s) nn) = cst s ∧ 0 ≤ cst s ∧ cst s ≤ 3000) {Le : Nat} {x : Int × Int} (hv : G_bv g0 τ0 g τ G B nn Le sn cT cs ad x) (q : ∀ g' τ' u' Le', u' ≤ u + 8 → G_bv g0 τ0 g' τ' G B nn Le' sn cT cs ad x → P_gw (d + 7) 204 22 [.ref G, .ref Le', P_zl x.1, P_un, P_z ((nn : Nat) : Int), P_z 9, P_un, P_un, P_un, P_un, P_un, P_un, P_un] [] w σ g' τ' (N + 2) u' Q) : P_gw (d + 7) 204 22 [.ref G, .ref Le, P_zl x.1, P_un, P_z ((nn : Nat) : Int), P_z 8, P_un, P_un, P_un, P_un, P_un, P_un, P_un] [] w σ g τ N u Q := by
  obtain ⟨hf, ⟨cs1, hC, hlo, hok⟩, hx, hxO, hLe⟩ := hv
  refine P_gw_lts (fun hlt => ?_)
  refine g_bc3_8 hC.1.1 hm (fun g' τ' u' hx1 hu => ?_)
  have hf' : G_fr G_R5 G_12 g τ g' τ' := G_fr_xt hlt hx1
  refine q g' τ' u' Le hu ⟨G_fr_tr hf hf', ⟨cs1, G_C_xt hlt hx1 hC, hlo, hok⟩, hx, hxO, fun h0 => ?_⟩
  have hL := hLe h0
  exact ⟨(hf' _ _ _ hL.1).1, fun j a b => ((hf' _ _ _ hL.1).2 _ (fun q => by omega) (G_nR5 _ (by omega))).trans (hL.2 j a b)⟩

theorem g_bk3_9 {d : Nat} {w : P_Lw} {σ : P_A} {g : P_Gl} {τ : P_A} {N u : Nat} {Q : P_GQ} {G : Nat} {g0 : P_Gl} {τ0 : P_A} {T nt : Nat} {tt : Int → Nat} {rT : Int → Nat} {tr : Int → Int → Nat} {cT : Int → Nat} {VV : Int → Int → Int → Int} (hT : P_gT g0 τ0 G T nt tt rT tr cT VV) {S nn : Nat} {sn : Int → Int} (hS : P_gS g0 τ0 G S nn nt sn) {B : Nat} {cs : List A_cd} {ad : Int → Nat} (hm : nn = 3) {nv : Int} (h13 : τ0 G 13 = nv) (hnv : 0 ≤ nv ∧ nv ≤ 1) {cst : Int → Int} (hcst : ∀ s, A_isO (nn : Int) s → (G_co nv sn rT VV (A_lows (A_od s) cs) (A_od s) nn) = cst s ∧ 0 ≤ cst s ∧ cst s ≤ 3000) {Le : Nat} {x : Int × Int} (hv : G_bv g0 τ0 g τ G B nn Le sn cT cs ad x) (q : ∀ g' τ' u' Le', u' ≤ u + 8 → G_bv g0 τ0 g' τ' G B nn Le' sn cT cs ad x → P_gw (d + 7) 204 22 [.ref G, .ref Le', P_zl x.1, P_un, P_z ((nn : Nat) : Int), P_z 10, P_un, P_un, P_un, P_un, P_un, P_un, P_un] [] w σ g' τ' (N + 2) u' Q) : P_gw (d + 7) 204 22 [.ref G, .ref Le, P_zl x.1, P_un, P_z ((nn : Nat) : Int), P_z 9, P_un, P_un, P_un, P_un, P_un, P_un, P_un] [] w σ g τ N u Q := by
  obtain ⟨hf, ⟨cs1, hC, hlo, hok⟩, hx, hxO, hLe⟩ := hv
  refine P_gw_lts (fun hlt => ?_)
  refine g_bc3_9 hC.1.1 hm (fun g' τ' u' hx1 hu => ?_)
  have hf' : G_fr G_R5 G_12 g τ g' τ' := G_fr_xt hlt hx1
  refine q g' τ' u' Le hu ⟨G_fr_tr hf hf', ⟨cs1, G_C_xt hlt hx1 hC, hlo, hok⟩, hx, hxO, fun h0 => ?_⟩
  have hL := hLe h0
  exact ⟨(hf' _ _ _ hL.1).1, fun j a b => ((hf' _ _ _ hL.1).2 _ (fun q => by omega) (G_nR5 _ (by omega))).trans (hL.2 j a b)⟩

theorem g_bk3_10 {d : Nat} {w : P_Lw} {σ : P_A} {g : P_Gl} {τ : P_A} {N u : Nat} {Q : P_GQ} {G : Nat} {g0 : P_Gl} {τ0 : P_A} {T nt : Nat} {tt : Int → Nat} {rT : Int → Nat} {tr : Int → Int → Nat} {cT : Int → Nat} {VV : Int → Int → Int → Int} (hT : P_gT g0 τ0 G T nt tt rT tr cT VV) {S nn : Nat} {sn : Int → Int} (hS : P_gS g0 τ0 G S nn nt sn) {B : Nat} {cs : List A_cd} {ad : Int → Nat} (hm : nn = 3) {nv : Int} (h13 : τ0 G 13 = nv) (hnv : 0 ≤ nv ∧ nv ≤ 1) {cst : Int → Int} (hcst : ∀ s, A_isO (nn : Int) s → (G_co nv sn rT VV (A_lows (A_od s) cs) (A_od s) nn) = cst s ∧ 0 ≤ cst s ∧ cst s ≤ 3000) {Le : Nat} {x : Int × Int} (hv : G_bv g0 τ0 g τ G B nn Le sn cT cs ad x) (q : ∀ g' τ' u' Le', u' ≤ u + 8 → G_bv g0 τ0 g' τ' G B nn Le' sn cT cs ad x → P_gw (d + 7) 204 22 [.ref G, .ref Le', P_zl x.1, P_un, P_z ((nn : Nat) : Int), P_z 11, P_un, P_un, P_un, P_un, P_un, P_un, P_un] [] w σ g' τ' (N + 2) u' Q) : P_gw (d + 7) 204 22 [.ref G, .ref Le, P_zl x.1, P_un, P_z ((nn : Nat) : Int), P_z 10, P_un, P_un, P_un, P_un, P_un, P_un, P_un] [] w σ g τ N u Q := by
  obtain ⟨hf, ⟨cs1, hC, hlo, hok⟩, hx, hxO, hLe⟩ := hv
  refine P_gw_lts (fun hlt => ?_)
  refine g_bc3_10 hC.1.1 hm (fun g' τ' u' hx1 hu => ?_)
  have hf' : G_fr G_R5 G_12 g τ g' τ' := G_fr_xt hlt hx1
  refine q g' τ' u' Le hu ⟨G_fr_tr hf hf', ⟨cs1, G_C_xt hlt hx1 hC, hlo, hok⟩, hx, hxO, fun h0 => ?_⟩
  have hL := hLe h0
  exact ⟨(hf' _ _ _ hL.1).1, fun j a b => ((hf' _ _ _ hL.1).2 _ (fun q => by omega) (G_nR5 _ (by omega))).trans (hL.2 j a b)⟩

theorem g_bk3_11 {d : Nat} {w : P_Lw} {σ : P_A} {g : P_Gl} {τ : P_A} {N u : Nat} {Q : P_GQ} {G : Nat} {g0 : P_Gl} {τ0 : P_A} {T nt : Nat} {tt : Int → Nat} {rT : Int → Nat} {tr : Int → Int → Nat} {cT : Int → Nat} {VV : Int → Int → Int → Int} (hT : P_gT g0 τ0 G T nt tt rT tr cT VV) {S nn : Nat} {sn : Int → Int} (hS : P_gS g0 τ0 G S nn nt sn) {B : Nat} {cs : List A_cd} {ad : Int → Nat} (hm : nn = 3) {nv : Int} (h13 : τ0 G 13 = nv) (hnv : 0 ≤ nv ∧ nv ≤ 1) {cst : Int → Int} (hcst : ∀ s, A_isO (nn : Int) s → (G_co nv sn rT VV (A_lows (A_od s) cs) (A_od s) nn) = cst s ∧ 0 ≤ cst s ∧ cst s ≤ 3000) {Le : Nat} {x : Int × Int} (hv : G_bv g0 τ0 g τ G B nn Le sn cT cs ad x) (q : ∀ g' τ' u' Le', u' ≤ u + 8 → G_bv g0 τ0 g' τ' G B nn Le' sn cT cs ad (A_bt cst 6 x) → P_gw (d + 7) 204 22 [.ref G, .ref Le', P_zl (A_bt cst 6 x).1, P_un, P_z ((nn : Nat) : Int), P_z 12, P_un, P_un, P_un, P_un, P_un, P_un, P_un] [] w σ g' τ' (N + 2) u' Q) : P_gw (d + 7) 204 22 [.ref G, .ref Le, P_zl x.1, P_un, P_z ((nn : Nat) : Int), P_z 11, P_un, P_un, P_un, P_un, P_un, P_un, P_un] [] w σ g τ N u Q := by
  obtain ⟨hf, ⟨cs1, hC, hlo, hok⟩, hx, hxO, hLe⟩ := hv
  have hsO : A_isO (nn : Int) 6 := by unfold A_isO; omega
  have hcs := hcst 6 hsO
  have hC1 := hC
  refine P_gw_lts (fun hlt => ?_)
  refine g_bc3_11 (P_gT_fr hf (fun r a b => by unfold G_R5; omega) (by unfold G_12; omega) hT) (P_gS_fr hf ⟨G_nR5 _ (by omega), G_nR5 _ (by omega)⟩ (by unfold G_12; omega) hS) hC hok hm (((hf G _ _ hT.1.1).2 13 (fun _ => by unfold G_12; omega) (G_nR5 _ (by omega))).trans h13) hnv hx (by rw [hlo]; rw [hcs.1]; exact hcs.2) (fun g' τ' u' hu hf' hC' hO' => ?_)
  rw [hlo, hcs.1]
  rw [hlo] at hC'
  have hcarry : ∃ cs1, P_gC g' τ' G B cs1 ad ∧ (∀ od, A_lows od cs1 = A_lows od cs) ∧ ∀ y ∈ cs1, P_gok nn sn cT y := ⟨_, hC', fun od => G_lows_lows, hlo _ ▸ G_ok_lows hok⟩
  refine ⟨fun hl => ?_, fun hl => ?_⟩
  · have e := G_bt_t (cst := cst) (s := 6) (x := x) hl
    rw [e] at q
    exact q g' τ' u' (N + 1) hu ⟨G_fr_tr hf hf', hcarry, ⟨by simp only; omega, hcs.2.2⟩, hsO, fun _ => ⟨hO'.2.1, fun j a b => (hO'.2.2.1 j a b).1⟩⟩
  · have e := G_bt_f (cst := cst) (s := 6) (x := x) hl
    rw [e] at q
    refine q g' τ' u' Le hu ⟨G_fr_tr hf hf', hcarry, hx, hxO, fun h0 => ?_⟩
    have hL := hLe h0
    exact ⟨(hf' _ _ _ hL.1).1, fun j a b => ((hf' _ _ _ hL.1).2 _ (fun q => by omega) (G_nR5 _ (by omega))).trans (hL.2 j a b)⟩

theorem g_bk3_12 {d : Nat} {w : P_Lw} {σ : P_A} {g : P_Gl} {τ : P_A} {N u : Nat} {Q : P_GQ} {G : Nat} {g0 : P_Gl} {τ0 : P_A} {T nt : Nat} {tt : Int → Nat} {rT : Int → Nat} {tr : Int → Int → Nat} {cT : Int → Nat} {VV : Int → Int → Int → Int} (hT : P_gT g0 τ0 G T nt tt rT tr cT VV) {S nn : Nat} {sn : Int → Int} (hS : P_gS g0 τ0 G S nn nt sn) {B : Nat} {cs : List A_cd} {ad : Int → Nat} (hm : nn = 3) {nv : Int} (h13 : τ0 G 13 = nv) (hnv : 0 ≤ nv ∧ nv ≤ 1) {cst : Int → Int} (hcst : ∀ s, A_isO (nn : Int) s → (G_co nv sn rT VV (A_lows (A_od s) cs) (A_od s) nn) = cst s ∧ 0 ≤ cst s ∧ cst s ≤ 3000) {Le : Nat} {x : Int × Int} (hv : G_bv g0 τ0 g τ G B nn Le sn cT cs ad x) (q : ∀ g' τ' u' Le', u' ≤ u + 8 → G_bv g0 τ0 g' τ' G B nn Le' sn cT cs ad x → P_gw (d + 7) 204 22 [.ref G, .ref Le', P_zl x.1, P_un, P_z ((nn : Nat) : Int), P_z 13, P_un, P_un, P_un, P_un, P_un, P_un, P_un] [] w σ g' τ' (N + 2) u' Q) : P_gw (d + 7) 204 22 [.ref G, .ref Le, P_zl x.1, P_un, P_z ((nn : Nat) : Int), P_z 12, P_un, P_un, P_un, P_un, P_un, P_un, P_un] [] w σ g τ N u Q := by
  obtain ⟨hf, ⟨cs1, hC, hlo, hok⟩, hx, hxO, hLe⟩ := hv
  refine P_gw_lts (fun hlt => ?_)
  refine g_bc3_12 hC.1.1 hm (fun g' τ' u' hx1 hu => ?_)
  have hf' : G_fr G_R5 G_12 g τ g' τ' := G_fr_xt hlt hx1
  refine q g' τ' u' Le hu ⟨G_fr_tr hf hf', ⟨cs1, G_C_xt hlt hx1 hC, hlo, hok⟩, hx, hxO, fun h0 => ?_⟩
  have hL := hLe h0
  exact ⟨(hf' _ _ _ hL.1).1, fun j a b => ((hf' _ _ _ hL.1).2 _ (fun q => by omega) (G_nR5 _ (by omega))).trans (hL.2 j a b)⟩

theorem g_bk3_13 {d : Nat} {w : P_Lw} {σ : P_A} {g : P_Gl} {τ : P_A} {N u : Nat} {Q : P_GQ} {G : Nat} {g0 : P_Gl} {τ0 : P_A} {T nt : Nat} {tt : Int → Nat} {rT : Int → Nat} {tr : Int → Int → Nat} {cT : Int → Nat} {VV : Int → Int → Int → Int} (hT : P_gT g0 τ0 G T nt tt rT tr cT VV) {S nn : Nat} {sn : Int → Int} (hS : P_gS g0 τ0 G S nn nt sn) {B : Nat} {cs : List A_cd} {ad : Int → Nat} (hm : nn = 3) {nv : Int} (h13 : τ0 G 13 = nv) (hnv : 0 ≤ nv ∧ nv ≤ 1) {cst : Int → Int} (hcst : ∀ s, A_isO (nn : Int) s → (G_co nv sn rT VV (A_lows (A_od s) cs) (A_od s) nn) = cst s ∧ 0 ≤ cst s ∧ cst s ≤ 3000) {Le : Nat} {x : Int × Int} (hv : G_bv g0 τ0 g τ G B nn Le sn cT cs ad x) (q : ∀ g' τ' u' Le', u' ≤ u + 8 → G_bv g0 τ0 g' τ' G B nn Le' sn cT cs ad x → P_gw (d + 7) 204 22 [.ref G, .ref Le', P_zl x.1, P_un, P_z ((nn : Nat) : Int), P_z 14, P_un, P_un, P_un, P_un, P_un, P_un, P_un] [] w σ g' τ' (N + 2) u' Q) : P_gw (d + 7) 204 22 [.ref G, .ref Le, P_zl x.1, P_un, P_z ((nn : Nat) : Int), P_z 13, P_un, P_un, P_un, P_un, P_un, P_un, P_un] [] w σ g τ N u Q := by
  obtain ⟨hf, ⟨cs1, hC, hlo, hok⟩, hx, hxO, hLe⟩ := hv
  refine P_gw_lts (fun hlt => ?_)
  refine g_bc3_13 hC.1.1 hm (fun g' τ' u' hx1 hu => ?_)
  have hf' : G_fr G_R5 G_12 g τ g' τ' := G_fr_xt hlt hx1
  refine q g' τ' u' Le hu ⟨G_fr_tr hf hf', ⟨cs1, G_C_xt hlt hx1 hC, hlo, hok⟩, hx, hxO, fun h0 => ?_⟩
  have hL := hLe h0
  exact ⟨(hf' _ _ _ hL.1).1, fun j a b => ((hf' _ _ _ hL.1).2 _ (fun q => by omega) (G_nR5 _ (by omega))).trans (hL.2 j a b)⟩

theorem g_bk3_14 {d : Nat} {w : P_Lw} {σ : P_A} {g : P_Gl} {τ : P_A} {N u : Nat} {Q : P_GQ} {G : Nat} {g0 : P_Gl} {τ0 : P_A} {T nt : Nat} {tt : Int → Nat} {rT : Int → Nat} {tr : Int → Int → Nat} {cT : Int → Nat} {VV : Int → Int → Int → Int} (hT : P_gT g0 τ0 G T nt tt rT tr cT VV) {S nn : Nat} {sn : Int → Int} (hS : P_gS g0 τ0 G S nn nt sn) {B : Nat} {cs : List A_cd} {ad : Int → Nat} (hm : nn = 3) {nv : Int} (h13 : τ0 G 13 = nv) (hnv : 0 ≤ nv ∧ nv ≤ 1) {cst : Int → Int} (hcst : ∀ s, A_isO (nn : Int) s → (G_co nv sn rT VV (A_lows (A_od s) cs) (A_od s) nn) = cst s ∧ 0 ≤ cst s ∧ cst s ≤ 3000) {Le : Nat} {x : Int × Int} (hv : G_bv g0 τ0 g τ G B nn Le sn cT cs ad x) (q : ∀ g' τ' u' Le', u' ≤ u + 8 → G_bv g0 τ0 g' τ' G B nn Le' sn cT cs ad x → P_gw (d + 7) 204 22 [.ref G, .ref Le', P_zl x.1, P_un, P_z ((nn : Nat) : Int), P_z 15, P_un, P_un, P_un, P_un, P_un, P_un, P_un] [] w σ g' τ' (N + 2) u' Q) : P_gw (d + 7) 204 22 [.ref G, .ref Le, P_zl x.1, P_un, P_z ((nn : Nat) : Int), P_z 14, P_un, P_un, P_un, P_un, P_un, P_un, P_un] [] w σ g τ N u Q := by
  obtain ⟨hf, ⟨cs1, hC, hlo, hok⟩, hx, hxO, hLe⟩ := hv
  refine P_gw_lts (fun hlt => ?_)
  refine g_bc3_14 hC.1.1 hm (fun g' τ' u' hx1 hu => ?_)
  have hf' : G_fr G_R5 G_12 g τ g' τ' := G_fr_xt hlt hx1
  refine q g' τ' u' Le hu ⟨G_fr_tr hf hf', ⟨cs1, G_C_xt hlt hx1 hC, hlo, hok⟩, hx, hxO, fun h0 => ?_⟩
  have hL := hLe h0
  exact ⟨(hf' _ _ _ hL.1).1, fun j a b => ((hf' _ _ _ hL.1).2 _ (fun q => by omega) (G_nR5 _ (by omega))).trans (hL.2 j a b)⟩

theorem g_bk3_15 {d : Nat} {w : P_Lw} {σ : P_A} {g : P_Gl} {τ : P_A} {N u : Nat} {Q : P_GQ} {G : Nat} {g0 : P_Gl} {τ0 : P_A} {T nt : Nat} {tt : Int → Nat} {rT : Int → Nat} {tr : Int → Int → Nat} {cT : Int → Nat} {VV : Int → Int → Int → Int} (hT : P_gT g0 τ0 G T nt tt rT tr cT VV) {S nn : Nat} {sn : Int → Int} (hS : P_gS g0 τ0 G S nn nt sn) {B : Nat} {cs : List A_cd} {ad : Int → Nat} (hm : nn = 3) {nv : Int} (h13 : τ0 G 13 = nv) (hnv : 0 ≤ nv ∧ nv ≤ 1) {cst : Int → Int} (hcst : ∀ s, A_isO (nn : Int) s → (G_co nv sn rT VV (A_lows (A_od s) cs) (A_od s) nn) = cst s ∧ 0 ≤ cst s ∧ cst s ≤ 3000) {Le : Nat} {x : Int × Int} (hv : G_bv g0 τ0 g τ G B nn Le sn cT cs ad x) (q : ∀ g' τ' u' Le', u' ≤ u + 8 → G_bv g0 τ0 g' τ' G B nn Le' sn cT cs ad (A_bt cst 9 x) → P_gw (d + 7) 204 22 [.ref G, .ref Le', P_zl (A_bt cst 9 x).1, P_un, P_z ((nn : Nat) : Int), P_z 16, P_un, P_un, P_un, P_un, P_un, P_un, P_un] [] w σ g' τ' (N + 2) u' Q) : P_gw (d + 7) 204 22 [.ref G, .ref Le, P_zl x.1, P_un, P_z ((nn : Nat) : Int), P_z 15, P_un, P_un, P_un, P_un, P_un, P_un, P_un] [] w σ g τ N u Q := by
  obtain ⟨hf, ⟨cs1, hC, hlo, hok⟩, hx, hxO, hLe⟩ := hv
  have hsO : A_isO (nn : Int) 9 := by unfold A_isO; omega
  have hcs := hcst 9 hsO
  have hC1 := hC
  refine P_gw_lts (fun hlt => ?_)
  refine g_bc3_15 (P_gT_fr hf (fun r a b => by unfold G_R5; omega) (by unfold G_12; omega) hT) (P_gS_fr hf ⟨G_nR5 _ (by omega), G_nR5 _ (by omega)⟩ (by unfold G_12; omega) hS) hC hok hm (((hf G _ _ hT.1.1).2 13 (fun _ => by unfold G_12; omega) (G_nR5 _ (by omega))).trans h13) hnv hx (by rw [hlo]; rw [hcs.1]; exact hcs.2) (fun g' τ' u' hu hf' hC' hO' => ?_)
  rw [hlo, hcs.1]
  rw [hlo] at hC'
  have hcarry : ∃ cs1, P_gC g' τ' G B cs1 ad ∧ (∀ od, A_lows od cs1 = A_lows od cs) ∧ ∀ y ∈ cs1, P_gok nn sn cT y := ⟨_, hC', fun od => G_lows_lows, hlo _ ▸ G_ok_lows hok⟩
  refine ⟨fun hl => ?_, fun hl => ?_⟩
  · have e := G_bt_t (cst := cst) (s := 9) (x := x) hl
    rw [e] at q
    exact q g' τ' u' (N + 1) hu ⟨G_fr_tr hf hf', hcarry, ⟨by simp only; omega, hcs.2.2⟩, hsO, fun _ => ⟨hO'.2.1, fun j a b => (hO'.2.2.1 j a b).1⟩⟩
  · have e := G_bt_f (cst := cst) (s := 9) (x := x) hl
    rw [e] at q
    refine q g' τ' u' Le hu ⟨G_fr_tr hf hf', hcarry, hx, hxO, fun h0 => ?_⟩
    have hL := hLe h0
    exact ⟨(hf' _ _ _ hL.1).1, fun j a b => ((hf' _ _ _ hL.1).2 _ (fun q => by omega) (G_nR5 _ (by omega))).trans (hL.2 j a b)⟩

theorem g_bk3_16 {d : Nat} {w : P_Lw} {σ : P_A} {g : P_Gl} {τ : P_A} {N u : Nat} {Q : P_GQ} {G : Nat} {g0 : P_Gl} {τ0 : P_A} {T nt : Nat} {tt : Int → Nat} {rT : Int → Nat} {tr : Int → Int → Nat} {cT : Int → Nat} {VV : Int → Int → Int → Int} (hT : P_gT g0 τ0 G T nt tt rT tr cT VV) {S nn : Nat} {sn : Int → Int} (hS : P_gS g0 τ0 G S nn nt sn) {B : Nat} {cs : List A_cd} {ad : Int → Nat} (hm : nn = 3) {nv : Int} (h13 : τ0 G 13 = nv) (hnv : 0 ≤ nv ∧ nv ≤ 1) {cst : Int → Int} (hcst : ∀ s, A_isO (nn : Int) s → (G_co nv sn rT VV (A_lows (A_od s) cs) (A_od s) nn) = cst s ∧ 0 ≤ cst s ∧ cst s ≤ 3000) {Le : Nat} {x : Int × Int} (hv : G_bv g0 τ0 g τ G B nn Le sn cT cs ad x) (q : ∀ g' τ' u' Le', u' ≤ u + 8 → G_bv g0 τ0 g' τ' G B nn Le' sn cT cs ad x → P_gw (d + 7) 204 22 [.ref G, .ref Le', P_zl x.1, P_un, P_z ((nn : Nat) : Int), P_z 17, P_un, P_un, P_un, P_un, P_un, P_un, P_un] [] w σ g' τ' (N + 2) u' Q) : P_gw (d + 7) 204 22 [.ref G, .ref Le, P_zl x.1, P_un, P_z ((nn : Nat) : Int), P_z 16, P_un, P_un, P_un, P_un, P_un, P_un, P_un] [] w σ g τ N u Q := by
  obtain ⟨hf, ⟨cs1, hC, hlo, hok⟩, hx, hxO, hLe⟩ := hv
  refine P_gw_lts (fun hlt => ?_)
  refine g_bc3_16 hC.1.1 hm (fun g' τ' u' hx1 hu => ?_)
  have hf' : G_fr G_R5 G_12 g τ g' τ' := G_fr_xt hlt hx1
  refine q g' τ' u' Le hu ⟨G_fr_tr hf hf', ⟨cs1, G_C_xt hlt hx1 hC, hlo, hok⟩, hx, hxO, fun h0 => ?_⟩
  have hL := hLe h0
  exact ⟨(hf' _ _ _ hL.1).1, fun j a b => ((hf' _ _ _ hL.1).2 _ (fun q => by omega) (G_nR5 _ (by omega))).trans (hL.2 j a b)⟩

theorem g_bk3_17 {d : Nat} {w : P_Lw} {σ : P_A} {g : P_Gl} {τ : P_A} {N u : Nat} {Q : P_GQ} {G : Nat} {g0 : P_Gl} {τ0 : P_A} {T nt : Nat} {tt : Int → Nat} {rT : Int → Nat} {tr : Int → Int → Nat} {cT : Int → Nat} {VV : Int → Int → Int → Int} (hT : P_gT g0 τ0 G T nt tt rT tr cT VV) {S nn : Nat} {sn : Int → Int} (hS : P_gS g0 τ0 G S nn nt sn) {B : Nat} {cs : List A_cd} {ad : Int → Nat} (hm : nn = 3) {nv : Int} (h13 : τ0 G 13 = nv) (hnv : 0 ≤ nv ∧ nv ≤ 1) {cst : Int → Int} (hcst : ∀ s, A_isO (nn : Int) s → (G_co nv sn rT VV (A_lows (A_od s) cs) (A_od s) nn) = cst s ∧ 0 ≤ cst s ∧ cst s ≤ 3000) {Le : Nat} {x : Int × Int} (hv : G_bv g0 τ0 g τ G B nn Le sn cT cs ad x) (q : ∀ g' τ' u' Le', u' ≤ u + 8 → G_bv g0 τ0 g' τ' G B nn Le' sn cT cs ad x → P_gw (d + 7) 204 22 [.ref G, .ref Le', P_zl x.1, P_un, P_z ((nn : Nat) : Int), P_z 18, P_un, P_un, P_un, P_un, P_un, P_un, P_un] [] w σ g' τ' (N + 2) u' Q) : P_gw (d + 7) 204 22 [.ref G, .ref Le, P_zl x.1, P_un, P_z ((nn : Nat) : Int), P_z 17, P_un, P_un, P_un, P_un, P_un, P_un, P_un] [] w σ g τ N u Q := by
  obtain ⟨hf, ⟨cs1, hC, hlo, hok⟩, hx, hxO, hLe⟩ := hv
  refine P_gw_lts (fun hlt => ?_)
  refine g_bc3_17 hC.1.1 hm (fun g' τ' u' hx1 hu => ?_)
  have hf' : G_fr G_R5 G_12 g τ g' τ' := G_fr_xt hlt hx1
  refine q g' τ' u' Le hu ⟨G_fr_tr hf hf', ⟨cs1, G_C_xt hlt hx1 hC, hlo, hok⟩, hx, hxO, fun h0 => ?_⟩
  have hL := hLe h0
  exact ⟨(hf' _ _ _ hL.1).1, fun j a b => ((hf' _ _ _ hL.1).2 _ (fun q => by omega) (G_nR5 _ (by omega))).trans (hL.2 j a b)⟩

theorem g_bk3_18 {d : Nat} {w : P_Lw} {σ : P_A} {g : P_Gl} {τ : P_A} {N u : Nat} {Q : P_GQ} {G : Nat} {g0 : P_Gl} {τ0 : P_A} {T nt : Nat} {tt : Int → Nat} {rT : Int → Nat} {tr : Int → Int → Nat} {cT : Int → Nat} {VV : Int → Int → Int → Int} (hT : P_gT g0 τ0 G T nt tt rT tr cT VV) {S nn : Nat} {sn : Int → Int} (hS : P_gS g0 τ0 G S nn nt sn) {B : Nat} {cs : List A_cd} {ad : Int → Nat} (hm : nn = 3) {nv : Int} (h13 : τ0 G 13 = nv) (hnv : 0 ≤ nv ∧ nv ≤ 1) {cst : Int → Int} (hcst : ∀ s, A_isO (nn : Int) s → (G_co nv sn rT VV (A_lows (A_od s) cs) (A_od s) nn) = cst s ∧ 0 ≤ cst s ∧ cst s ≤ 3000) {Le : Nat} {x : Int × Int} (hv : G_bv g0 τ0 g τ G B nn Le sn cT cs ad x) (q : ∀ g' τ' u' Le', u' ≤ u + 8 → G_bv g0 τ0 g' τ' G B nn Le' sn cT cs ad x → P_gw (d + 7) 204 22 [.ref G, .ref Le', P_zl x.1, P_un, P_z ((nn : Nat) : Int), P_z 19, P_un, P_un, P_un, P_un, P_un, P_un, P_un] [] w σ g' τ' (N + 2) u' Q) : P_gw (d + 7) 204 22 [.ref G, .ref Le, P_zl x.1, P_un, P_z ((nn : Nat) : Int), P_z 18, P_un, P_un, P_un, P_un, P_un, P_un, P_un] [] w σ g τ N u Q := by
  obtain ⟨hf, ⟨cs1, hC, hlo, hok⟩, hx, hxO, hLe⟩ := hv
  refine P_gw_lts (fun hlt => ?_)
  refine g_bc3_18 hC.1.1 hm (fun g' τ' u' hx1 hu => ?_)
  have hf' : G_fr G_R5 G_12 g τ g' τ' := G_fr_xt hlt hx1
  refine q g' τ' u' Le hu ⟨G_fr_tr hf hf', ⟨cs1, G_C_xt hlt hx1 hC, hlo, hok⟩, hx, hxO, fun h0 => ?_⟩
  have hL := hLe h0
  exact ⟨(hf' _ _ _ hL.1).1, fun j a b => ((hf' _ _ _ hL.1).2 _ (fun q => by omega) (G_nR5 _ (by omega))).trans (hL.2 j a b)⟩

theorem g_bk3_19 {d : Nat} {w : P_Lw} {σ : P_A} {g : P_Gl} {τ : P_A} {N u : Nat} {Q : P_GQ} {G : Nat} {g0 : P_Gl} {τ0 : P_A} {T nt : Nat} {tt : Int → Nat} {rT : Int → Nat} {tr : Int → Int → Nat} {cT : Int → Nat} {VV : Int → Int → Int → Int} (hT : P_gT g0 τ0 G T nt tt rT tr cT VV) {S nn : Nat} {sn : Int → Int} (hS : P_gS g0 τ0 G S nn nt sn) {B : Nat} {cs : List A_cd} {ad : Int → Nat} (hm : nn = 3) {nv : Int} (h13 : τ0 G 13 = nv) (hnv : 0 ≤ nv ∧ nv ≤ 1) {cst : Int → Int} (hcst : ∀ s, A_isO (nn : Int) s → (G_co nv sn rT VV (A_lows (A_od s) cs) (A_od s) nn) = cst s ∧ 0 ≤ cst s ∧ cst s ≤ 3000) {Le : Nat} {x : Int × Int} (hv : G_bv g0 τ0 g τ G B nn Le sn cT cs ad x) (q : ∀ g' τ' u' Le', u' ≤ u + 8 → G_bv g0 τ0 g' τ' G B nn Le' sn cT cs ad (A_bt cst 12 x) → P_gw (d + 7) 204 22 [.ref G, .ref Le', P_zl (A_bt cst 12 x).1, P_un, P_z ((nn : Nat) : Int), P_z 20, P_un, P_un, P_un, P_un, P_un, P_un, P_un] [] w σ g' τ' (N + 2) u' Q) : P_gw (d + 7) 204 22 [.ref G, .ref Le, P_zl x.1, P_un, P_z ((nn : Nat) : Int), P_z 19, P_un, P_un, P_un, P_un, P_un, P_un, P_un] [] w σ g τ N u Q := by
  obtain ⟨hf, ⟨cs1, hC, hlo, hok⟩, hx, hxO, hLe⟩ := hv
  have hsO : A_isO (nn : Int) 12 := by unfold A_isO; omega
  have hcs := hcst 12 hsO
  have hC1 := hC
  refine P_gw_lts (fun hlt => ?_)
  refine g_bc3_19 (P_gT_fr hf (fun r a b => by unfold G_R5; omega) (by unfold G_12; omega) hT) (P_gS_fr hf ⟨G_nR5 _ (by omega), G_nR5 _ (by omega)⟩ (by unfold G_12; omega) hS) hC hok hm (((hf G _ _ hT.1.1).2 13 (fun _ => by unfold G_12; omega) (G_nR5 _ (by omega))).trans h13) hnv hx (by rw [hlo]; rw [hcs.1]; exact hcs.2) (fun g' τ' u' hu hf' hC' hO' => ?_)
  rw [hlo, hcs.1]
  rw [hlo] at hC'
  have hcarry : ∃ cs1, P_gC g' τ' G B cs1 ad ∧ (∀ od, A_lows od cs1 = A_lows od cs) ∧ ∀ y ∈ cs1, P_gok nn sn cT y := ⟨_, hC', fun od => G_lows_lows, hlo _ ▸ G_ok_lows hok⟩
  refine ⟨fun hl => ?_, fun hl => ?_⟩
  · have e := G_bt_t (cst := cst) (s := 12) (x := x) hl
    rw [e] at q
    exact q g' τ' u' (N + 1) hu ⟨G_fr_tr hf hf', hcarry, ⟨by simp only; omega, hcs.2.2⟩, hsO, fun _ => ⟨hO'.2.1, fun j a b => (hO'.2.2.1 j a b).1⟩⟩
  · have e := G_bt_f (cst := cst) (s := 12) (x := x) hl
    rw [e] at q
    refine q g' τ' u' Le hu ⟨G_fr_tr hf hf', hcarry, hx, hxO, fun h0 => ?_⟩
    have hL := hLe h0
    exact ⟨(hf' _ _ _ hL.1).1, fun j a b => ((hf' _ _ _ hL.1).2 _ (fun q => by omega) (G_nR5 _ (by omega))).trans (hL.2 j a b)⟩

theorem g_bk3_20 {d : Nat} {w : P_Lw} {σ : P_A} {g : P_Gl} {τ : P_A} {N u : Nat} {Q : P_GQ} {G : Nat} {g0 : P_Gl} {τ0 : P_A} {T nt : Nat} {tt : Int → Nat} {rT : Int → Nat} {tr : Int → Int → Nat} {cT : Int → Nat} {VV : Int → Int → Int → Int} (hT : P_gT g0 τ0 G T nt tt rT tr cT VV) {S nn : Nat} {sn : Int → Int} (hS : P_gS g0 τ0 G S nn nt sn) {B : Nat} {cs : List A_cd} {ad : Int → Nat} (hm : nn = 3) {nv : Int} (h13 : τ0 G 13 = nv) (hnv : 0 ≤ nv ∧ nv ≤ 1) {cst : Int → Int} (hcst : ∀ s, A_isO (nn : Int) s → (G_co nv sn rT VV (A_lows (A_od s) cs) (A_od s) nn) = cst s ∧ 0 ≤ cst s ∧ cst s ≤ 3000) {Le : Nat} {x : Int × Int} (hv : G_bv g0 τ0 g τ G B nn Le sn cT cs ad x) (q : ∀ g' τ' u' Le', u' ≤ u + 8 → G_bv g0 τ0 g' τ' G B nn Le' sn cT cs ad x → P_gw (d + 7) 204 22 [.ref G, .ref Le', P_zl x.1, P_un, P_z ((nn : Nat) : Int), P_z 21, P_un, P_un, P_un, P_un, P_un, P_un, P_un] [] w σ g' τ' (N + 2) u' Q) : P_gw (d + 7) 204 22 [.ref G, .ref Le, P_zl x.1, P_un, P_z ((nn : Nat) : Int), P_z 20, P_un, P_un, P_un, P_un, P_un, P_un, P_un] [] w σ g τ N u Q := by
  obtain ⟨hf, ⟨cs1, hC, hlo, hok⟩, hx, hxO, hLe⟩ := hv
  refine P_gw_lts (fun hlt => ?_)
  refine g_bc3_20 hC.1.1 hm (fun g' τ' u' hx1 hu => ?_)
  have hf' : G_fr G_R5 G_12 g τ g' τ' := G_fr_xt hlt hx1
  refine q g' τ' u' Le hu ⟨G_fr_tr hf hf', ⟨cs1, G_C_xt hlt hx1 hC, hlo, hok⟩, hx, hxO, fun h0 => ?_⟩
  have hL := hLe h0
  exact ⟨(hf' _ _ _ hL.1).1, fun j a b => ((hf' _ _ _ hL.1).2 _ (fun q => by omega) (G_nR5 _ (by omega))).trans (hL.2 j a b)⟩

theorem g_bk3_21 {d : Nat} {w : P_Lw} {σ : P_A} {g : P_Gl} {τ : P_A} {N u : Nat} {Q : P_GQ} {G : Nat} {g0 : P_Gl} {τ0 : P_A} {T nt : Nat} {tt : Int → Nat} {rT : Int → Nat} {tr : Int → Int → Nat} {cT : Int → Nat} {VV : Int → Int → Int → Int} (hT : P_gT g0 τ0 G T nt tt rT tr cT VV) {S nn : Nat} {sn : Int → Int} (hS : P_gS g0 τ0 G S nn nt sn) {B : Nat} {cs : List A_cd} {ad : Int → Nat} (hm : nn = 3) {nv : Int} (h13 : τ0 G 13 = nv) (hnv : 0 ≤ nv ∧ nv ≤ 1) {cst : Int → Int} (hcst : ∀ s, A_isO (nn : Int) s → (G_co nv sn rT VV (A_lows (A_od s) cs) (A_od s) nn) = cst s ∧ 0 ≤ cst s ∧ cst s ≤ 3000) {Le : Nat} {x : Int × Int} (hv : G_bv g0 τ0 g τ G B nn Le sn cT cs ad x) (q : ∀ g' τ' u' Le', u' ≤ u + 8 → G_bv g0 τ0 g' τ' G B nn Le' sn cT cs ad (A_bt cst 15 x) → P_gw (d + 7) 204 22 [.ref G, .ref Le', P_zl (A_bt cst 15 x).1, P_un, P_z ((nn : Nat) : Int), P_z 22, P_un, P_un, P_un, P_un, P_un, P_un, P_un] [] w σ g' τ' (N + 2) u' Q) : P_gw (d + 7) 204 22 [.ref G, .ref Le, P_zl x.1, P_un, P_z ((nn : Nat) : Int), P_z 21, P_un, P_un, P_un, P_un, P_un, P_un, P_un] [] w σ g τ N u Q := by
  obtain ⟨hf, ⟨cs1, hC, hlo, hok⟩, hx, hxO, hLe⟩ := hv
  have hsO : A_isO (nn : Int) 15 := by unfold A_isO; omega
  have hcs := hcst 15 hsO
  have hC1 := hC
  refine P_gw_lts (fun hlt => ?_)
  refine g_bc3_21 (P_gT_fr hf (fun r a b => by unfold G_R5; omega) (by unfold G_12; omega) hT) (P_gS_fr hf ⟨G_nR5 _ (by omega), G_nR5 _ (by omega)⟩ (by unfold G_12; omega) hS) hC hok hm (((hf G _ _ hT.1.1).2 13 (fun _ => by unfold G_12; omega) (G_nR5 _ (by omega))).trans h13) hnv hx (by rw [hlo]; rw [hcs.1]; exact hcs.2) (fun g' τ' u' hu hf' hC' hO' => ?_)
  rw [hlo, hcs.1]
  rw [hlo] at hC'
  have hcarry : ∃ cs1, P_gC g' τ' G B cs1 ad ∧ (∀ od, A_lows od cs1 = A_lows od cs) ∧ ∀ y ∈ cs1, P_gok nn sn cT y := ⟨_, hC', fun od => G_lows_lows, hlo _ ▸ G_ok_lows hok⟩
  refine ⟨fun hl => ?_, fun hl => ?_⟩
  · have e := G_bt_t (cst := cst) (s := 15) (x := x) hl
    rw [e] at q
    exact q g' τ' u' (N + 1) hu ⟨G_fr_tr hf hf', hcarry, ⟨by simp only; omega, hcs.2.2⟩, hsO, fun _ => ⟨hO'.2.1, fun j a b => (hO'.2.2.1 j a b).1⟩⟩
  · have e := G_bt_f (cst := cst) (s := 15) (x := x) hl
    rw [e] at q
    refine q g' τ' u' Le hu ⟨G_fr_tr hf hf', hcarry, hx, hxO, fun h0 => ?_⟩
    have hL := hLe h0
    exact ⟨(hf' _ _ _ hL.1).1, fun j a b => ((hf' _ _ _ hL.1).2 _ (fun q => by omega) (G_nR5 _ (by omega))).trans (hL.2 j a b)⟩

theorem g_bk3_22 {d : Nat} {w : P_Lw} {σ : P_A} {g : P_Gl} {τ : P_A} {N u : Nat} {Q : P_GQ} {G : Nat} {g0 : P_Gl} {τ0 : P_A} {T nt : Nat} {tt : Int → Nat} {rT : Int → Nat} {tr : Int → Int → Nat} {cT : Int → Nat} {VV : Int → Int → Int → Int} (hT : P_gT g0 τ0 G T nt tt rT tr cT VV) {S nn : Nat} {sn : Int → Int} (hS : P_gS g0 τ0 G S nn nt sn) {B : Nat} {cs : List A_cd} {ad : Int → Nat} (hm : nn = 3) {nv : Int} (h13 : τ0 G 13 = nv) (hnv : 0 ≤ nv ∧ nv ≤ 1) {cst : Int → Int} (hcst : ∀ s, A_isO (nn : Int) s → (G_co nv sn rT VV (A_lows (A_od s) cs) (A_od s) nn) = cst s ∧ 0 ≤ cst s ∧ cst s ≤ 3000) {Le : Nat} {x : Int × Int} (hv : G_bv g0 τ0 g τ G B nn Le sn cT cs ad x) (q : ∀ g' τ' u' Le', u' ≤ u + 8 → G_bv g0 τ0 g' τ' G B nn Le' sn cT cs ad x → P_gw (d + 7) 204 22 [.ref G, .ref Le', P_zl x.1, P_un, P_z ((nn : Nat) : Int), P_z 23, P_un, P_un, P_un, P_un, P_un, P_un, P_un] [] w σ g' τ' (N + 2) u' Q) : P_gw (d + 7) 204 22 [.ref G, .ref Le, P_zl x.1, P_un, P_z ((nn : Nat) : Int), P_z 22, P_un, P_un, P_un, P_un, P_un, P_un, P_un] [] w σ g τ N u Q := by
  obtain ⟨hf, ⟨cs1, hC, hlo, hok⟩, hx, hxO, hLe⟩ := hv
  refine P_gw_lts (fun hlt => ?_)
  refine g_bc3_22 hC.1.1 hm (fun g' τ' u' hx1 hu => ?_)
  have hf' : G_fr G_R5 G_12 g τ g' τ' := G_fr_xt hlt hx1
  refine q g' τ' u' Le hu ⟨G_fr_tr hf hf', ⟨cs1, G_C_xt hlt hx1 hC, hlo, hok⟩, hx, hxO, fun h0 => ?_⟩
  have hL := hLe h0
  exact ⟨(hf' _ _ _ hL.1).1, fun j a b => ((hf' _ _ _ hL.1).2 _ (fun q => by omega) (G_nR5 _ (by omega))).trans (hL.2 j a b)⟩

theorem g_bk3_23 {d : Nat} {w : P_Lw} {σ : P_A} {g : P_Gl} {τ : P_A} {N u : Nat} {Q : P_GQ} {G : Nat} {g0 : P_Gl} {τ0 : P_A} {T nt : Nat} {tt : Int → Nat} {rT : Int → Nat} {tr : Int → Int → Nat} {cT : Int → Nat} {VV : Int → Int → Int → Int} (hT : P_gT g0 τ0 G T nt tt rT tr cT VV) {S nn : Nat} {sn : Int → Int} (hS : P_gS g0 τ0 G S nn nt sn) {B : Nat} {cs : List A_cd} {ad : Int → Nat} (hm : nn = 3) {nv : Int} (h13 : τ0 G 13 = nv) (hnv : 0 ≤ nv ∧ nv ≤ 1) {cst : Int → Int} (hcst : ∀ s, A_isO (nn : Int) s → (G_co nv sn rT VV (A_lows (A_od s) cs) (A_od s) nn) = cst s ∧ 0 ≤ cst s ∧ cst s ≤ 3000) {Le : Nat} {x : Int × Int} (hv : G_bv g0 τ0 g τ G B nn Le sn cT cs ad x) (q : ∀ g' τ' u' Le', u' ≤ u + 8 → G_bv g0 τ0 g' τ' G B nn Le' sn cT cs ad x → P_gw (d + 7) 204 22 [.ref G, .ref Le', P_zl x.1, P_un, P_z ((nn : Nat) : Int), P_z 24, P_un, P_un, P_un, P_un, P_un, P_un, P_un] [] w σ g' τ' (N + 2) u' Q) : P_gw (d + 7) 204 22 [.ref G, .ref Le, P_zl x.1, P_un, P_z ((nn : Nat) : Int), P_z 23, P_un, P_un, P_un, P_un, P_un, P_un, P_un] [] w σ g τ N u Q := by
  obtain ⟨hf, ⟨cs1, hC, hlo, hok⟩, hx, hxO, hLe⟩ := hv
  refine P_gw_lts (fun hlt => ?_)
  refine g_bc3_23 hC.1.1 hm (fun g' τ' u' hx1 hu => ?_)
  have hf' : G_fr G_R5 G_12 g τ g' τ' := G_fr_xt hlt hx1
  refine q g' τ' u' Le hu ⟨G_fr_tr hf hf', ⟨cs1, G_C_xt hlt hx1 hC, hlo, hok⟩, hx, hxO, fun h0 => ?_⟩
  have hL := hLe h0
  exact ⟨(hf' _ _ _ hL.1).1, fun j a b => ((hf' _ _ _ hL.1).2 _ (fun q => by omega) (G_nR5 _ (by omega))).trans (hL.2 j a b)⟩

theorem g_bk3_24 {d : Nat} {w : P_Lw} {σ : P_A} {g : P_Gl} {τ : P_A} {N u : Nat} {Q : P_GQ} {G : Nat} {g0 : P_Gl} {τ0 : P_A} {T nt : Nat} {tt : Int → Nat} {rT : Int → Nat} {tr : Int → Int → Nat} {cT : Int → Nat} {VV : Int → Int → Int → Int} (hT : P_gT g0 τ0 G T nt tt rT tr cT VV) {S nn : Nat} {sn : Int → Int} (hS : P_gS g0 τ0 G S nn nt sn) {B : Nat} {cs : List A_cd} {ad : Int → Nat} (hm : nn = 3) {nv : Int} (h13 : τ0 G 13 = nv) (hnv : 0 ≤ nv ∧ nv ≤ 1) {cst : Int → Int} (hcst : ∀ s, A_isO (nn : Int) s → (G_co nv sn rT VV (A_lows (A_od s) cs) (A_od s) nn) = cst s ∧ 0 ≤ cst s ∧ cst s ≤ 3000) {Le : Nat} {x : Int × Int} (hv : G_bv g0 τ0 g τ G B nn Le sn cT cs ad x) (q : ∀ g' τ' u' Le', u' ≤ u + 8 → G_bv g0 τ0 g' τ' G B nn Le' sn cT cs ad x → P_gw (d + 7) 204 22 [.ref G, .ref Le', P_zl x.1, P_un, P_z ((nn : Nat) : Int), P_z 25, P_un, P_un, P_un, P_un, P_un, P_un, P_un] [] w σ g' τ' (N + 2) u' Q) : P_gw (d + 7) 204 22 [.ref G, .ref Le, P_zl x.1, P_un, P_z ((nn : Nat) : Int), P_z 24, P_un, P_un, P_un, P_un, P_un, P_un, P_un] [] w σ g τ N u Q := by
  obtain ⟨hf, ⟨cs1, hC, hlo, hok⟩, hx, hxO, hLe⟩ := hv
  refine P_gw_lts (fun hlt => ?_)
  refine g_bc3_24 hC.1.1 hm (fun g' τ' u' hx1 hu => ?_)
  have hf' : G_fr G_R5 G_12 g τ g' τ' := G_fr_xt hlt hx1
  refine q g' τ' u' Le hu ⟨G_fr_tr hf hf', ⟨cs1, G_C_xt hlt hx1 hC, hlo, hok⟩, hx, hxO, fun h0 => ?_⟩
  have hL := hLe h0
  exact ⟨(hf' _ _ _ hL.1).1, fun j a b => ((hf' _ _ _ hL.1).2 _ (fun q => by omega) (G_nR5 _ (by omega))).trans (hL.2 j a b)⟩

theorem g_bk3_25 {d : Nat} {w : P_Lw} {σ : P_A} {g : P_Gl} {τ : P_A} {N u : Nat} {Q : P_GQ} {G : Nat} {g0 : P_Gl} {τ0 : P_A} {T nt : Nat} {tt : Int → Nat} {rT : Int → Nat} {tr : Int → Int → Nat} {cT : Int → Nat} {VV : Int → Int → Int → Int} (hT : P_gT g0 τ0 G T nt tt rT tr cT VV) {S nn : Nat} {sn : Int → Int} (hS : P_gS g0 τ0 G S nn nt sn) {B : Nat} {cs : List A_cd} {ad : Int → Nat} (hm : nn = 3) {nv : Int} (h13 : τ0 G 13 = nv) (hnv : 0 ≤ nv ∧ nv ≤ 1) {cst : Int → Int} (hcst : ∀ s, A_isO (nn : Int) s → (G_co nv sn rT VV (A_lows (A_od s) cs) (A_od s) nn) = cst s ∧ 0 ≤ cst s ∧ cst s ≤ 3000) {Le : Nat} {x : Int × Int} (hv : G_bv g0 τ0 g τ G B nn Le sn cT cs ad x) (q : ∀ g' τ' u' Le', u' ≤ u + 8 → G_bv g0 τ0 g' τ' G B nn Le' sn cT cs ad x → P_gw (d + 7) 204 22 [.ref G, .ref Le', P_zl x.1, P_un, P_z ((nn : Nat) : Int), P_z 26, P_un, P_un, P_un, P_un, P_un, P_un, P_un] [] w σ g' τ' (N + 2) u' Q) : P_gw (d + 7) 204 22 [.ref G, .ref Le, P_zl x.1, P_un, P_z ((nn : Nat) : Int), P_z 25, P_un, P_un, P_un, P_un, P_un, P_un, P_un] [] w σ g τ N u Q := by
  obtain ⟨hf, ⟨cs1, hC, hlo, hok⟩, hx, hxO, hLe⟩ := hv
  refine P_gw_lts (fun hlt => ?_)
  refine g_bc3_25 hC.1.1 hm (fun g' τ' u' hx1 hu => ?_)
  have hf' : G_fr G_R5 G_12 g τ g' τ' := G_fr_xt hlt hx1
  refine q g' τ' u' Le hu ⟨G_fr_tr hf hf', ⟨cs1, G_C_xt hlt hx1 hC, hlo, hok⟩, hx, hxO, fun h0 => ?_⟩
  have hL := hLe h0
  exact ⟨(hf' _ _ _ hL.1).1, fun j a b => ((hf' _ _ _ hL.1).2 _ (fun q => by omega) (G_nR5 _ (by omega))).trans (hL.2 j a b)⟩

theorem g_bk3_26 {d : Nat} {w : P_Lw} {σ : P_A} {g : P_Gl} {τ : P_A} {N u : Nat} {Q : P_GQ} {G : Nat} {g0 : P_Gl} {τ0 : P_A} {T nt : Nat} {tt : Int → Nat} {rT : Int → Nat} {tr : Int → Int → Nat} {cT : Int → Nat} {VV : Int → Int → Int → Int} (hT : P_gT g0 τ0 G T nt tt rT tr cT VV) {S nn : Nat} {sn : Int → Int} (hS : P_gS g0 τ0 G S nn nt sn) {B : Nat} {cs : List A_cd} {ad : Int → Nat} (hm : nn = 3) {nv : Int} (h13 : τ0 G 13 = nv) (hnv : 0 ≤ nv ∧ nv ≤ 1) {cst : Int → Int} (hcst : ∀ s, A_isO (nn : Int) s → (G_co nv sn rT VV (A_lows (A_od s) cs) (A_od s) nn) = cst s ∧ 0 ≤ cst s ∧ cst s ≤ 3000) {Le : Nat} {x : Int × Int} (hv : G_bv g0 τ0 g τ G B nn Le sn cT cs ad x) (q : ∀ g' τ' u' Le', u' ≤ u + 8 → G_bv g0 τ0 g' τ' G B nn Le' sn cT cs ad x → P_gw (d + 7) 204 22 [.ref G, .ref Le', P_zl x.1, P_un, P_z ((nn : Nat) : Int), P_z 27, P_un, P_un, P_un, P_un, P_un, P_un, P_un] [] w σ g' τ' (N + 2) u' Q) : P_gw (d + 7) 204 22 [.ref G, .ref Le, P_zl x.1, P_un, P_z ((nn : Nat) : Int), P_z 26, P_un, P_un, P_un, P_un, P_un, P_un, P_un] [] w σ g τ N u Q := by
  obtain ⟨hf, ⟨cs1, hC, hlo, hok⟩, hx, hxO, hLe⟩ := hv
  refine P_gw_lts (fun hlt => ?_)
  refine g_bc3_26 hC.1.1 hm (fun g' τ' u' hx1 hu => ?_)
  have hf' : G_fr G_R5 G_12 g τ g' τ' := G_fr_xt hlt hx1
  refine q g' τ' u' Le hu ⟨G_fr_tr hf hf', ⟨cs1, G_C_xt hlt hx1 hC, hlo, hok⟩, hx, hxO, fun h0 => ?_⟩
  have hL := hLe h0
  exact ⟨(hf' _ _ _ hL.1).1, fun j a b => ((hf' _ _ _ hL.1).2 _ (fun q => by omega) (G_nR5 _ (by omega))).trans (hL.2 j a b)⟩
