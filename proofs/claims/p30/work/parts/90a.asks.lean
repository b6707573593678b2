/-! the law's own methods, written by wip/g1.py: 90a.asks -/
/-- a run that doesn't speak of some cells is one whatever they hold -/
theorem P_aw_sub {w w' : P_Lw} {σ σ' : P_A} {d y pc : Nat} {L st : List Value} {r : P_R} {Q : P_R → P_A → Prop} (h1 : w'.1 = w.1) (h3 : w'.2.2 = w.2.2) (hl : ∀ k, w'.2.1 k = true → w.2.1 k = true) (hs : ∀ k, w'.2.1 k = true → σ' k = σ k) (hr : ∀ Q' : P_R → P_A → Prop, Q' r σ → P_aw w' d y pc L st σ Q') (q : Q r σ') : P_aw w d y pc L st σ' Q := by
  intro h hW
  have hc : ∀ k, w'.2.1 k = true → P_cel w' σ k = P_cel w σ' k := fun k hk => by unfold P_cel; rw [h1, h3, hs k hk]
  have hW' : P_Wk w' σ h := ⟨fun k hk => by rw [hc k hk, h3]; exact hW.1 k (hl k hk), fun j k a b e => hW.2.1 j k (hl j a) (hl k b) (by rw [← h3]; exact e), hW.2.2⟩
  refine P_wp_mono (hr (fun r' s => r' = r ∧ s = σ) ⟨rfl, rfl⟩ h hW') ?_
  rintro r' h' ⟨s, b1, b2, b3, b4⟩
  subst b4
  subst b3
  refine ⟨σ', ⟨fun k hk => ?_, hW.2.1, b1.2.2⟩, ⟨b2.1, b2.2.1, fun a ha => b2.2.2 a (fun k hk => by rw [h3]; exact ha k (hl k hk))⟩, q⟩
  by_cases hk' : w'.2.1 k = true
  · have := b1.1 k hk'
    rw [hc k hk', h3] at this
    exact this
  · have h0 := hW.1 k hk
    refine ⟨h0.1, (b2.2.2 _ (fun j hj e => ?_)).trans h0.2⟩
    rw [h3] at e
    have := hW.2.1 k j hk (hl j hj) e
    exact hk' (this ▸ hj)
def G_w42 (w : P_Lw) : P_Lw := (w.1, fun k => w.2.1 k && decide (k ≠ 42 ∧ k ≠ 43), w.2.2)
theorem G_w42_l {w : P_Lw} {k : Nat} (h : k ≠ 42 ∧ k ≠ 43) (hk : w.2.1 k = true) : (G_w42 w).2.1 k = true := by
  show (w.2.1 k && decide (k ≠ 42 ∧ k ≠ 43)) = true
  rw [hk, decide_eq_true h]
  rfl
theorem G_w42_of {w : P_Lw} {k : Nat} (hk : (G_w42 w).2.1 k = true) : w.2.1 k = true ∧ k ≠ 42 ∧ k ≠ 43 := by
  have h : (w.2.1 k && decide (k ≠ 42 ∧ k ≠ 43)) = true := hk
  rw [Bool.and_eq_true, decide_eq_true_eq] at h
  exact h
theorem G_w42_C {w : P_Lw} (hw : P_Cw w) : P_Cw (G_w42 w) := ⟨hw.1, fun k hk => G_w42_l (by omega) (hw.2.1 k hk), G_w42_l (by omega) hw.2.2⟩
theorem G_w42_T {w : P_Lw} {k : Nat} (h : 50 ≤ k) (hT : P_isT w k) : P_isT (G_w42 w) k := ⟨⟨hT.1.1, G_w42_l (by omega) hT.1.2⟩, ⟨hT.2.1.1, G_w42_l (by omega) hT.2.1.2⟩, ⟨hT.2.2.1, G_w42_l (by omega) hT.2.2.2⟩⟩
/-- the checksum: one, whatever is asked aside -/
theorem G_dig {w : P_Lw} {σ : P_A} {nn ni : Nat} {sn : Int → Int} {rT cT : Int → Nat} {VV : Int → Int → Int → Int} {vr : Int → Int → Int} {cs : List A_cd} {od : Int → Int} {ki ci : Int → Int} {gp oi lm nv : Int} (hw : P_Cw w) (hB : A_B w σ (nn : Int) (G_tb sn) (P_grw sn rT) vr (G_cl sn cT) (G_V sn VV) cs od (ni : Int) ki ci gp oi lm nv) (d : Nat) {rd ck mt : Int} {sz : Nat} (hka : A_ka σ (G_V sn VV) (P_grw sn rT) (ni : Int) ki ci gp oi lm rd ck mt sz) (hpu : ∀ j, 1 ≤ j → j ≤ 3 → 0 ≤ σ 44 j ∧ σ 44 j ≤ 1000000000) (hrk : (0 ≤ rd ∧ rd ≤ 1000000000) ∧ (0 ≤ ck ∧ ck ≤ 1000000000)) (hct : G_ct w σ 3 rT cT VV) (hln : 0 ≤ σ 29 4 ∧ σ 29 4 ≤ 40) : ∃ X : Int64, ∀ (σ' : P_A), (∀ a b, ¬ (42 ≤ a ∧ a ≤ 43) → σ' a b = σ a b) → ∀ {Q : P_R → P_A → Prop}, Q (.inl (some (.long X))) σ' → P_aw w (d + 9) 163 0 [.ref (w.2.2 0), P_un, P_un, P_un] [] σ' Q := by
  obtain ⟨b1, b2, b3, b4, b5, b6, b7, b8, b9, b10, b11⟩ := hB
  have hB' : A_B (G_w42 w) σ (nn : Int) (G_tb sn) (P_grw sn rT) vr (G_cl sn cT) (G_V sn VV) cs od (ni : Int) ki ci gp oi lm nv := ⟨⟨b1.1, b1.2.1, fun s x y => ⟨(b1.2.2 s x y).1, ⟨(b1.2.2 s x y).2.1.1, G_w42_T (b1.2.2 s x y).2.1.1 (b1.2.2 s x y).2.1.2⟩, (b1.2.2 s x y).2.2⟩⟩, b2, b3, b4, b5, b6, b7, b8, b9, b10, b11⟩
  obtain ⟨X, hX⟩ := s_dig (G_w42_C hw) (d := d) hB' hka hpu hrk hct.1 (fun t ht => (hct.2.2 t ht).1.2.trans (by omega)) (fun t ht => by
    obtain ⟨⟨a1, a2⟩, ⟨a3, a4⟩, ⟨a5, a6⟩, a7, a8, a9, a10⟩ := hct.2.2 t ht
    exact ⟨G_w42_T (by omega) a1, by rw [a5]; omega, by rw [a3]; omega, a9, a10⟩) rfl hln
  refine ⟨X, fun σ' hs {Q} q => P_aw_sub (w' := G_w42 w) (σ := σ) (r := .inl (some (.long X))) rfl rfl (fun k hk => (G_w42_of hk).1) (fun k hk => ?_) (fun Q' q' => hX q') q⟩
  funext b
  have := (G_w42_of hk).2
  exact hs k b (by omega)
/-- the first pull -/
theorem G_nxt {w : P_Lw} {σ : P_A} {nn ni : Nat} {sn : Int → Int} {rT cT : Int → Nat} {VV : Int → Int → Int → Int} {vr : Int → Int → Int} {cs : List A_cd} {od : Int → Int} {ki ci : Int → Int} {gp oi lm nv : Int} (hw : P_Cw w) (hB : A_B w σ (nn : Int) (G_tb sn) (P_grw sn rT) vr (G_cl sn cT) (G_V sn VV) cs od (ni : Int) ki ci gp oi lm nv) {d : Nat} {Q : P_R → P_A → Prop} (hk : σ 31 16 = 0 ∨ ∃ sz, A_ka σ (G_V sn VV) (P_grw sn rT) (ni : Int) ki ci gp oi lm (G_wk sn rT VV nn cs od ni ki gp oi lm nv).2.1 (G_wk sn rT VV nn cs od ni ki gp oi lm nv).2.2.1 (G_wk sn rT VV nn cs od ni ki gp oi lm nv).2.2.2 sz) (hmt : (G_wk sn rT VV nn cs od ni ki gp oi lm nv).2.2.2 ≤ 2744) (hrk : 0 ≤ (G_wk sn rT VV nn cs od ni ki gp oi lm nv).2.1 ∧ 0 ≤ (G_wk sn rT VV nn cs od ni ki gp oi lm nv).2.2.1) (hp0 : σ 44 0 = 1) (hp1 : σ 44 1 = 0) (q : ∀ (σ' : P_A) (sz : Nat) (is : Int), (∀ a b, ¬ (31 ≤ a ∧ a ≤ 41) → a ≠ 44 → σ' a b = σ a b) → A_ka σ' (G_V sn VV) (P_grw sn rT) (ni : Int) ki ci gp oi lm (G_wk sn rT VV nn cs od ni ki gp oi lm nv).2.1 (G_wk sn rT VV nn cs od ni ki gp oi lm nv).2.2.1 (G_wk sn rT VV nn cs od ni ki gp oi lm nv).2.2.2 sz → (is = 1 ∧ 0 < min ((sz : Nat) : Int) lm ∨ is = 0 ∧ 0 = min ((sz : Nat) : Int) lm) → σ' 44 0 = 1 → σ' 44 1 = is → (0 ≤ σ' 44 2 ∧ σ' 44 2 ≤ (G_wk sn rT VV nn cs od ni ki gp oi lm nv).2.1) → (0 ≤ σ' 44 3 ∧ σ' 44 3 ≤ (G_wk sn rT VV nn cs od ni ki gp oi lm nv).2.2.1) → Q (.inl (some (P_z is))) σ') : P_aw w (d + 13) 155 0 [.ref (w.2.2 0)] [] σ Q := by
  rcases hk with hk | ⟨sz, hk⟩
  · refine s_nxt0 hw hB hk hmt hp0 hp1 (fun σ' sz f1 f2 f3 f4 f5 f6 f7 f8 => q σ' sz 1 f1 f3 (Or.inl ⟨rfl, f4⟩) f5 f6 f7 f8) (fun σ' sz f1 f2 f3 f4 f5 f6 f7 f8 => q σ' sz 0 f1 f3 (Or.inr ⟨rfl, f4⟩) f5 f6 ⟨by rw [f7]; exact f2.1, by rw [f7]; exact Int.le_refl _⟩ ⟨by rw [f8]; exact f2.2, by rw [f8]; exact Int.le_refl _⟩)
  · have hlm := hB.2.2.1.2.2.2.2.2.2.2.2
    refine s_nxt1 (d := d + 3) hw hB hk hp0 hp1 ⟨Int.le_refl _, by omega⟩ hrk (fun f0 σ' f1 f5 f6 f7 f8 => q σ' sz 1 (fun a b _ h => f1 a b h) (A_ka_cg (fun a b h => f1 a b (by omega)) hk) (Or.inl ⟨rfl, f0⟩) f5 f6 f7 f8) (fun f0 σ' f1 f5 f6 f7 f8 => q σ' sz 0 (fun a b _ h => f1 a b h) (A_ka_cg (fun a b h => f1 a b (by omega)) hk) (Or.inr ⟨rfl, f0⟩) f5 f6 ⟨by rw [f7]; exact hrk.1, by rw [f7]; exact Int.le_refl _⟩ ⟨by rw [f8]; exact hrk.2, by rw [f8]; exact Int.le_refl _⟩)
def G_ct1 (sn : Int → Int) (rT : Int → Nat) (VV : Int → Int → Int → Int) (nn : Nat) (cs : List A_cd) (od : Int → Int) (k : Int) : A_st := A_go 1000000000 (fun p ρ => A_hl (A_val (G_V sn VV) (P_grw sn rT) ρ) p k cs 0) od (P_grw sn rT) ((nn : Nat) : Int).toNat 0 (fun _ => 0, 0, 0, 0)
/-- the share -/
theorem G_s_sha {w : P_Lw} {σ : P_A} {nn ni : Nat} {sn : Int → Int} {rT cT : Int → Nat} {VV : Int → Int → Int → Int} {vr : Int → Int → Int} {cs : List A_cd} {od : Int → Int} {ki ci : Int → Int} {gp oi lm nv : Int} (hw : P_Cw w) (hB : A_B w σ (nn : Int) (G_tb sn) (P_grw sn rT) vr (G_cl sn cT) (G_V sn VV) cs od (ni : Int) ki ci gp oi lm nv) {d : Nat} {Q : P_R → P_A → Prop} (hl42 : w.2.1 42 = true) (hl43 : w.2.1 43 = true) {a C : Int} (ha : A_all (P_grw sn rT) (nn : Int) = a) (hC : (G_ct1 sn rT VV nn cs od (-1)).2.2.2 = C) (hdd : ¬ (a = 0 ∨ nv = 1) → FP.ddiv (FP.i2d (Int32.ofInt C)) (FP.i2d (Int32.ofInt a)) &&& 0x7fffffffffffffff ≤ 0x7ff0000000000000) (q : ∀ σ', (∀ a b, ¬ (42 ≤ a ∧ a ≤ 43) → σ' a b = σ a b) → Q (.inl (some (.double (G_sh a C nv)))) σ') : P_aw w (d + 14) 162 0 [.ref (w.2.2 0), P_un] [] σ Q := by
  have hnn := hB.1.2.1
  subst ha
  subst hC
  have q0 : A_all (P_grw sn rT) (nn : Int) = 0 ∨ nv = 1 → Q (.inl (some (.double 0))) σ := fun h => by
    have := q σ (fun _ _ _ => rfl)
    unfold G_sh at this
    rw [if_pos h] at this
    exact this
  have q1 : ¬ (A_all (P_grw sn rT) (nn : Int) = 0 ∨ nv = 1) → ∀ σ', (∀ a b, ¬ (42 ≤ a ∧ a ≤ 43) → σ' a b = σ a b) → Q (.inl (some (.double (FP.ddiv (FP.i2d (Int32.ofInt (G_ct1 sn rT VV nn cs od (-1)).2.2.2)) (FP.i2d (Int32.ofInt (A_all (P_grw sn rT) (nn : Int)))))))) σ' := fun h σ' hs => by
    have := q σ' hs
    unfold G_sh at this
    rw [if_neg h] at this
    exact this
  rcases (by omega : nn = 1 ∨ nn = 2 ∨ nn = 3) with rfl | rfl | rfl
  · exact s_sha1 hw hB hl42 hl43 hdd q0 q1
  · exact s_sha2 hw hB hl42 hl43 hdd q0 q1
  · exact s_sha3 hw hB hl42 hl43 hdd q0 q1