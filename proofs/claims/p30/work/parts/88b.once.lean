/-! the law's own methods, written by wip/g1.py: 88b.once -/
theorem P_gw_lts {d y pc : Nat} {L st : List Value} {w : P_Lw} {σ : P_A} {g : P_Gl} {τ : P_A} {N u : Nat} {Q : P_GQ} (k : (∀ a r sh, g a = some (r, sh) → 2 ≤ a ∧ a < N) → P_gw d y pc L st w σ g τ N u Q) : P_gw d y pc L st w σ g τ N u Q := fun h hk => k (fun _ _ _ e => P_Gk_lt hk e) h hk
/-- what stays: cells stay what they are; contents stay but for those of the marks R, and of Grove's own the fields F -/
def G_fr (R F : Nat → Prop) (g : P_Gl) (τ : P_A) (g' : P_Gl) (τ' : P_A) : Prop := ∀ x r sh, g x = some (r, sh) → g' x = some (r, sh) ∧ ∀ j, (r = 1 → ¬ F j) → ¬ R r → τ' x j = τ x j
theorem G_fr_rf {R F : Nat → Prop} {g : P_Gl} {τ : P_A} : G_fr R F g τ g τ := fun _ _ _ h => ⟨h, fun _ _ _ => rfl⟩
theorem G_fr_tr {R F : Nat → Prop} {g g1 g2 : P_Gl} {τ τ1 τ2 : P_A} (h : G_fr R F g τ g1 τ1) (h2 : G_fr R F g1 τ1 g2 τ2) : G_fr R F g τ g2 τ2 := fun x r sh e => ⟨(h2 x r sh (h x r sh e).1).1, fun j a b => ((h2 x r sh (h x r sh e).1).2 j a b).trans ((h x r sh e).2 j a b)⟩
theorem G_fr_le {R F R' F' : Nat → Prop} {g g1 : P_Gl} {τ τ1 : P_A} (hR : ∀ r, R r → R' r) (hF : ∀ r, F r → F' r) (h : G_fr R F g τ g1 τ1) : G_fr R' F' g τ g1 τ1 := fun x r sh e => ⟨(h x r sh e).1, fun j a b => (h x r sh e).2 j (fun q => fun z => a q (hF j z)) (fun z => b (hR r z))⟩
theorem G_fr_xt {R F : Nat → Prop} {g g1 : P_Gl} {τ τ1 : P_A} {N : Nat} (hlt : ∀ a r sh, g a = some (r, sh) → 2 ≤ a ∧ a < N) (h : P_xt N g τ g1 τ1) : G_fr R F g τ g1 τ1 := fun x r sh e => ⟨((h x (hlt x r sh e).2).1).trans e, fun j _ _ => (h x (hlt x r sh e).2).2 j⟩
/-- a field of Grove's own is written -/
theorem G_fr_f {R F : Nat → Prop} {g : P_Gl} {τ : P_A} {G f : Nat} {v : Int} {sh : P_Sg} (hG : g G = some (1, sh)) (hF : F f) : G_fr R F g τ g (P_u2 τ G f v) := fun x r sh2 e => ⟨e, fun j a _ => P_u2_ne (fun q => by
  obtain ⟨rfl, rfl⟩ := q
  cases hG.symm.trans e
  exact a rfl hF)⟩
/-- a cell of a mark in R is written -/
theorem G_fr_r {R F : Nat → Prop} {g : P_Gl} {τ : P_A} {k f r0 : Nat} {v : Int} {sh : P_Sg} (hk : g k = some (r0, sh)) (hR : R r0) : G_fr R F g τ g (P_u2 τ k f v) := fun x r sh2 e => ⟨e, fun j _ b => P_u2_ne (fun q => by
  obtain ⟨rfl, rfl⟩ := q
  cases hk.symm.trans e
  exact b hR)⟩
theorem P_gf_fr {R F : Nat → Prop} {g g' : P_Gl} {τ τ' : P_A} {G f r : Nat} (h : G_fr R F g τ g' τ') (hR : ¬ R 1) (hF : ¬ F f) (hf : P_gf g τ G f r) : P_gf g' τ' G f r := ⟨(h _ _ _ hf.1).1, ((h _ _ _ hf.1).2 _ (fun _ => hF) hR).trans hf.2⟩
theorem P_gT_fr {R F : Nat → Prop} {g g' : P_Gl} {τ τ' : P_A} {G T nt : Nat} {tt : Int → Nat} {rT : Int → Nat} {tr : Int → Int → Nat} {cT : Int → Nat} {VV : Int → Int → Int → Int} (h : G_fr R F g τ g' τ') (hR : ∀ r, 1 ≤ r → r ≤ 4 → ¬ R r) (hF : ¬ F 3) (hT : P_gT g τ G T nt tt rT tr cT VV) : P_gT g' τ' G T nt tt rT tr cT VV := by
  obtain ⟨h1, h2, h3, h4⟩ := hT
  refine ⟨P_gf_fr h (hR 1 (by omega) (by omega)) hF h1, (h _ _ _ h2).1, h3, fun t a b => ?_⟩
  obtain ⟨⟨k1, k2, k3⟩, k4⟩ := h4 t a b
  refine ⟨⟨((h _ _ _ h2).2 _ (fun q => by omega) (hR 2 (by omega) (by omega))).trans k1, (h _ _ _ k2).1, k3⟩, fun j a2 b2 => ?_⟩
  obtain ⟨⟨m1, m2⟩, m3⟩ := k4 j a2 b2
  exact ⟨⟨((h _ _ _ k2).2 _ (fun q => by omega) (hR 3 (by omega) (by omega))).trans m1, (h _ _ _ m2).1⟩, fun c a3 b3 => ⟨((h _ _ _ m2).2 _ (fun q => by omega) (hR 4 (by omega) (by omega))).trans (m3 c a3 b3).1, (m3 c a3 b3).2⟩⟩
theorem P_gS_fr {R F : Nat → Prop} {g g' : P_Gl} {τ τ' : P_A} {G S nn nt : Nat} {sn : Int → Int} (h : G_fr R F g τ g' τ') (hR : ¬ R 1 ∧ ¬ R 9) (hF : ¬ F 7) (hS : P_gS g τ G S nn nt sn) : P_gS g' τ' G S nn nt sn := by
  obtain ⟨h1, h2, h3, h4⟩ := hS
  exact ⟨P_gf_fr h hR.1 hF h1, (h _ _ _ h2).1, h3, fun s a b => ⟨((h _ _ _ h2).2 _ (fun q => by omega) hR.2).trans (h4 s a b).1, (h4 s a b).2⟩⟩
theorem P_gI_fr {R F : Nat → Prop} {g g' : P_Gl} {τ τ' : P_A} {G I n : Nat} {gi : Int → Int} (h : G_fr R F g τ g' τ') (hR : ¬ R 1 ∧ ¬ R 8) (hF : ¬ F 6) (hI : P_gI g τ G I n gi) : P_gI g' τ' G I n gi := by
  obtain ⟨h1, h2, h3, h4⟩ := hI
  exact ⟨P_gf_fr h hR.1 hF h1, (h _ _ _ h2).1, h3, fun s a b => ⟨((h _ _ _ h2).2 _ (fun q => by omega) hR.2).trans (h4 s a b).1, (h4 s a b).2⟩⟩
theorem P_gO_fr {R F : Nat → Prop} {g g' : P_Gl} {τ τ' : P_A} {G D nn : Nat} {od : Int → Int} (h : G_fr R F g τ g' τ') (hR : ¬ R 1 ∧ ¬ R 6) (hF : ¬ F 12) (hO : P_gO g τ G D nn od) : P_gO g' τ' G D nn od := by
  obtain ⟨h1, h2, h3, h4⟩ := hO
  exact ⟨P_gf_fr h hR.1 hF h1, (h _ _ _ h2).1, fun s a b => ⟨((h _ _ _ h2).2 _ (fun q => by omega) hR.2).trans (h3 s a b).1, (h3 s a b).2⟩, h4⟩
theorem P_gC_fr {R F : Nat → Prop} {g g' : P_Gl} {τ τ' : P_A} {G B : Nat} {cs : List A_cd} {ad : Int → Nat} (h : G_fr R F g τ g' τ') (hR : ¬ R 1 ∧ ¬ R 7 ∧ ¬ R 5) (hF : ¬ F 11) (hC : P_gC g τ G B cs ad) : P_gC g' τ' G B cs ad := by
  obtain ⟨h1, h2, h3, h4, h5⟩ := hC
  exact ⟨P_gf_fr h hR.1 hF h1, (h _ _ _ h2).1, h3, fun i a b => ⟨⟨((h _ _ _ h2).2 _ (fun q => by omega) hR.2.1).trans (h4 i a b).1.1, (h _ _ _ (h4 i a b).1.2).1⟩, fun f hf => ((h _ _ _ (h4 i a b).1.2).2 _ (fun q => by omega) hR.2.2).trans ((h4 i a b).2 f hf)⟩, h5⟩
def G_R5 (r : Nat) : Prop := r = 5
def G_F (j : Nat) : Prop := j = 11 ∨ j = 13
theorem P_gC_rw {g : P_Gl} {τ : P_A} {G N : Nat} {B : Nat} {cs : List A_cd} {ad : Int → Nat} (hC : P_gC g τ G B cs ad) (hlt : ∀ a r sh, g a = some (r, sh) → 2 ≤ a ∧ a < N) : P_rw1 g τ N B cs.length := fun j hj => by
  have h := (hC.2.2.2.1 (j : Int) (by omega) (by omega)).1
  exact ⟨ad j, 5, 4, h.1, (hlt _ _ _ h.2).2, h.2⟩
theorem P_rw1_xt {g g1 : P_Gl} {τ τ1 : P_A} {N B m : Nat} (h : P_xt N g τ g1 τ1) (hB : B < N) (hr : P_rw1 g τ N B m) : P_rw1 g1 τ1 (N + 1) B m := fun j hj => by
  obtain ⟨x, rx, k, e1, e2, e3⟩ := hr j hj
  exact ⟨x, rx, k, ((h B hB).2 j).trans e1, by omega, ((h x e2).1).trans e3⟩
theorem G_lc_lt {A B : List A_cd} {i : Int} {f : Nat} (h : i < (A.length : Int)) (h0 : 0 ≤ i) : A_lc (A ++ B) i f = A_lc A i f := by
  unfold A_lc
  rw [List.getD_eq_getElem?_getD, List.getD_eq_getElem?_getD, List.getElem?_append_left (by omega)]
theorem G_lc_ge {A B : List A_cd} {y : A_cd} {i : Int} {f : Nat} (h : (A.length : Int) ≤ i) : A_lc (A ++ y :: B) (i + 1) f = A_lc (A ++ B) i f := by
  unfold A_lc
  rw [List.getD_eq_getElem?_getD, List.getD_eq_getElem?_getD, List.getElem?_append_right (by omega), List.getElem?_append_right (by omega)]
  have e : (i + 1).toNat - A.length = (i.toNat - A.length) + 1 := by omega
  rw [e]
  rfl
/-- a condition less -/
theorem G_C_rm {g g' : P_Gl} {τ τ' : P_A} {G B N : Nat} {A B2 : List A_cd} {y : A_cd} {ad : Int → Nat} {k : Int} (hC : P_gC g τ G B (A ++ y :: B2) ad) (hlt : ∀ a r sh, g a = some (r, sh) → 2 ≤ a ∧ a < N) (hk : k = (A.length : Int)) (hx : P_xt N g τ g' τ') (hN : g' N = some (7, .inr (.inr (200, (A ++ y :: B2).length - 1)))) (h1 : ∀ j : Nat, (j : Int) < k → τ' N j = τ B j) (h2 : ∀ j : Nat, k ≤ (j : Int) → j + 1 < (A ++ y :: B2).length → τ' N j = τ B (j + 1)) : P_gC g' (P_u2 τ' G 11 (N : Int)) G N (A ++ B2) (fun j => if j < k then ad j else ad (j + 1)) := by
  have hl : (A ++ y :: B2).length = (A ++ B2).length + 1 := by simp only [List.length_append, List.length_cons]; omega
  have hA : A.length ≤ (A ++ B2).length := by simp only [List.length_append]; omega
  have hG := (hlt _ _ _ hC.1.1).2
  rw [hl] at hN h2
  refine ⟨⟨((hx G hG).1).trans hC.1.1, P_u2_at⟩, hN, by have := hC.2.2.1; omega, fun i a b => ?_, fun i j a b a2 b2 e => ?_⟩
  · have hi := hC.2.2.2.1
    rw [hl] at hi
    have hb : (B : Nat) < N := (hlt _ _ _ hC.2.1).2
    by_cases q : i < k
    · simp only [if_pos q]
      obtain ⟨⟨k1, k2⟩, k3⟩ := hi i a (by omega)
      have hd := (hlt _ _ _ k2).2
      have hdG : ad i ≠ G := fun e => by rw [e] at k2; cases k2.symm.trans hC.1.1
      refine ⟨⟨(P_u2_ne (by omega)).trans ((h1 i.toNat (by omega)).trans k1), ((hx _ hd).1).trans k2⟩, fun f hf => (P_u2_ne (by omega)).trans (((hx _ hd).2 f).trans ((k3 f hf).trans ?_))⟩
      rw [G_lc_lt (by omega) a, G_lc_lt (by omega) a]
    · simp only [if_neg q]
      obtain ⟨⟨k1, k2⟩, k3⟩ := hi (i + 1) (by omega) (by omega)
      have hd := (hlt _ _ _ k2).2
      have hdG : ad (i + 1) ≠ G := fun e => by rw [e] at k2; cases k2.symm.trans hC.1.1
      refine ⟨⟨(P_u2_ne (by omega)).trans ((h2 i.toNat (by omega) (by omega)).trans (by rw [← k1]; congr 1; omega)), ((hx _ hd).1).trans k2⟩, fun f hf => (P_u2_ne (by omega)).trans (((hx _ hd).2 f).trans ((k3 f hf).trans ?_))⟩
      rw [G_lc_ge (by omega)]
  · have hj := hC.2.2.2.2
    rw [hl] at hj
    simp only at e
    split at e <;> split at e
    · exact hj i j a (by omega) a2 (by omega) e
    · have := hj i (j + 1) a (by omega) (by omega) (by omega) e; omega
    · have := hj (i + 1) j (by omega) (by omega) a2 (by omega) e; omega
    · have := hj (i + 1) (j + 1) (by omega) (by omega) (by omega) (by omega) e; omega
/-- a condition's level -/
theorem G_C_set {g : P_Gl} {τ : P_A} {G B : Nat} {A B2 : List A_cd} {y : A_cd} {ad : Int → Nat} {k v : Int} (hC : P_gC g τ G B (A ++ y :: B2) ad) (hk : k = (A.length : Int)) : P_gC g (P_u2 τ (ad k) 3 v) G B (A ++ A_lvl y v :: B2) ad := by
  have hl : (A ++ A_lvl y v :: B2).length = (A ++ y :: B2).length := by simp only [List.length_append, List.length_cons]
  have hk1 : k < ((A ++ y :: B2).length : Int) := by simp only [List.length_append, List.length_cons]; omega
  have k2 := (hC.2.2.2.1 k (by omega) hk1).1.2
  have hdG : G ≠ ad k := fun e => by rw [← e] at k2; cases k2.symm.trans hC.1.1
  have hdB : B ≠ ad k := fun e => by rw [← e] at k2; cases k2.symm.trans hC.2.1
  refine ⟨⟨hC.1.1, (P_u2_ne (by omega)).trans hC.1.2⟩, by rw [hl]; exact hC.2.1, by rw [hl]; exact hC.2.2.1, fun i a b => ?_, fun i j a b a2 b2 e => hC.2.2.2.2 i j a (by omega) a2 (by omega) e⟩
  rw [hl] at b
  obtain ⟨⟨m1, m2⟩, m3⟩ := hC.2.2.2.1 i a b
  refine ⟨⟨(P_u2_ne (by omega)).trans m1, m2⟩, fun f hf => ?_⟩
  by_cases e : i = k
  · subst e
    rw [A_lc_mid hk]
    have m3' := m3 f hf
    rw [A_lc_mid hk] at m3'
    by_cases e3 : f = 3
    · subst e3; rw [P_u2_at]; rfl
    · rw [P_u2_ne (by omega), m3']
      rcases (by omega : f = 0 ∨ f = 1 ∨ f = 2) with rfl | rfl | rfl <;> rfl
  · have hne : ad i ≠ ad k := fun q => e (hC.2.2.2.2 i k a b (by omega) hk1 q)
    rw [P_u2_ne (by omega), m3 f hf]
    rcases Int.lt_or_le i (A.length : Int) with q | q
    · rw [G_lc_lt q a, G_lc_lt q a]
    · rw [show i = (i - 1) + 1 by omega, G_lc_ge (by omega), G_lc_ge (by omega)]
/-- a condition more -/
theorem G_C_add {g g1 g2 : P_Gl} {τ τ1 τ2 : P_A} {G B N : Nat} {cs : List A_cd} {y : A_cd} {ad : Int → Nat} (hC : P_gC g τ G B cs ad) (hlt : ∀ a r sh, g a = some (r, sh) → 2 ≤ a ∧ a < N) (h12 : cs.length < 12) (hx2 : P_xt (N + 1) g1 τ1 g2 τ2) (hx : P_xt N g τ g1 τ1) (hr : g1 N = some (5, .inr (.inl 4))) (hv : ∀ f, f < 4 → τ1 N f = A_cf y f) (hN : g2 (N + 1) = some (7, .inr (.inr (200, cs.length + 1)))) (h1 : ∀ j : Nat, (j : Int) < (cs.length : Int) → τ2 (N + 1) j = τ1 B j) (h2 : τ2 (N + 1) (cs.length : Int).toNat = ((N : Nat) : Int)) : P_gC g2 (P_u2 τ2 G 11 ((N + 1 : Nat) : Int)) G (N + 1) (cs ++ [y]) (fun j => if j < (cs.length : Int) then ad j else N) := by
  have hl : (cs ++ [y]).length = cs.length + 1 := by simp
  have hG := (hlt _ _ _ hC.1.1).2
  have hB := (hlt _ _ _ hC.2.1).2
  refine ⟨⟨((hx2 G (by omega)).1).trans (((hx G hG).1).trans hC.1.1), P_u2_at⟩, by rw [hl]; exact hN, by omega, fun i a b => ?_, fun i j a b a2 b2 e => ?_⟩
  · rw [hl] at b
    by_cases q : i < (cs.length : Int)
    · simp only [if_pos q]
      obtain ⟨⟨k1, k2⟩, k3⟩ := hC.2.2.2.1 i a q
      have hd := (hlt _ _ _ k2).2
      have hdG : ad i ≠ G := fun e => by rw [e] at k2; cases k2.symm.trans hC.1.1
      refine ⟨⟨(P_u2_ne (by omega)).trans ((h1 i.toNat (by omega)).trans (((hx B hB).2 _).trans k1)), ((hx2 _ (by omega)).1).trans (((hx _ hd).1).trans k2)⟩, fun f hf => (P_u2_ne (by omega)).trans (((hx2 _ (by omega)).2 f).trans (((hx _ hd).2 f).trans ((k3 f hf).trans ?_)))⟩
      rw [G_lc_lt q a]
    · simp only [if_neg q]
      have ei : i = (cs.length : Int) := by omega
      subst ei
      refine ⟨⟨(P_u2_ne (by omega)).trans h2, ((hx2 _ (by omega)).1).trans hr⟩, fun f hf => (P_u2_ne (by omega)).trans (((hx2 _ (by omega)).2 f).trans ((hv f hf).trans ?_))⟩
      rw [A_lc_mid rfl]
  · rw [hl] at b b2
    simp only at e
    split at e <;> split at e
    · exact hC.2.2.2.2 i j a (by omega) a2 (by omega) e
    · next q _ => have := (hlt _ _ _ (hC.2.2.2.1 i a q).1.2).2; omega
    · next q => have := (hlt _ _ _ (hC.2.2.2.1 j a2 q).1.2).2; omega
    · omega