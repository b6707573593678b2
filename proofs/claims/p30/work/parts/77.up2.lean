/-! the class, written by wip/c1.py: 77.up2 -/
/-- a sum over listed results -/
def A_lk (h : Int → Int) : List A_kf → Int
  | [] => 0
  | y :: r => h y.2 + A_lk h r
theorem A_lk_app {h : Int → Int} : ∀ (l m : List A_kf), A_lk h (l ++ m) = A_lk h l + A_lk h m
  | [], m => by simp only [List.nil_append, A_lk]; omega
  | y :: r, m => by
    have := A_lk_app (h := h) r m
    simp only [List.cons_append, A_lk]; omega
theorem A_lk_perm {h : Int → Int} {l m : List A_kf} (p : l.Perm m) : A_lk h l = A_lk h m := by
  induction p with
  | nil => rfl
  | cons x _ ih => simp only [A_lk]; omega
  | swap x y l => simp only [A_lk]; omega
  | trans _ _ i1 i2 => exact i1.trans i2
theorem A_sm_sh {f : Nat → Int} : ∀ (n : Nat), A_sm f (n + 1) = f 0 + A_sm (fun j => f (j + 1)) n
  | 0 => by simp only [A_sm]; omega
  | n + 1 => by
    have := A_sm_sh (f := f) n
    simp only [A_sm] at this ⊢
    omega
theorem A_lk_sm {h : Int → Int} : ∀ (l : List A_kf), A_sm (fun p => h (A_at l p).2) l.length = A_lk h l
  | [] => rfl
  | y :: r => by
    have ih := A_lk_sm (h := h) r
    rw [List.length_cons, A_sm_sh]
    simp only [A_lk]
    rw [← ih]
    rfl
theorem A_lk_ge {h : Int → Int} : ∀ (l : List A_kf), (∀ y ∈ l, 1 ≤ h y.2) → ((l.length : Nat) : Int) ≤ A_lk h l
  | [], _ => by simp [A_lk]
  | y :: r, H => by
    have := A_lk_ge (h := h) r (fun z hz => H z (List.mem_cons_of_mem _ hz))
    have := H y List.mem_cons_self
    simp only [A_lk, List.length_cons]
    omega
theorem A_lk_gl {σ : P_A} {nm : Int → Int} : ∀ (n : Nat), (∀ j, j < n → 0 ≤ σ 34 j) → A_lk (fun g => σ 34 g.toNat) (A_gl σ nm n) = A_sm (σ 34) n
  | 0, _ => rfl
  | n + 1, H => by
    have ih := A_lk_gl (σ := σ) (nm := nm) n (fun j hj => H j (by omega))
    have h0 := H n (by omega)
    simp only [A_gl, A_sm]
    rw [A_lk_app, ih]
    split
    · simp only [A_lk, Int.toNat_natCast]; omega
    · simp only [A_lk]; omega
theorem A_at_mem {l : List A_kf} {j : Nat} (h : j < l.length) : A_at l j ∈ l := by
  unfold A_at
  rw [List.getD_eq_getElem?_getD, List.getElem?_eq_getElem h]
  exact List.getElem_mem h
/-- the results that are listed: how many, which numbers; groups' counts -/
def A_res (σ : P_A) (gth gp mt : Int) (sz : Nat) : Prop := σ 31 14 = ((sz : Nat) : Int) ∧ sz ≤ 2744 ∧ (∀ p, p < sz → (0 ≤ σ 37 p ∧ σ 37 p ≤ 2743) ∧ (gth = 1 → 0 ≤ σ 37 p ∧ σ 37 p ≤ 13)) ∧ (gth = 0 → ((sz : Nat) : Int) = mt) ∧ (gth = 1 → ((sz : Nat) : Int) ≤ mt + 1 ∧ A_sm (fun p => σ 34 (σ 37 p).toNat) sz = mt ∧ (gp ≠ -1 → ∀ p, p < sz → 1 ≤ σ 34 (σ 37 p).toNat))
theorem A_res_gl {σ σ' : P_A} {nm : Int → Int} {gp mt : Int} {sl : List A_kf} (hm : mt ≤ 2744) (hG : A_G gp mt σ) (hp : sl.Perm (A_gl σ nm 14)) (h14 : σ' 31 14 = ((sl.length : Nat) : Int)) (h37 : ∀ j, j < sl.length → σ' 37 j = (A_at sl j).2) (h34 : ∀ b, σ' 34 b = σ 34 b) : A_res σ' 1 gp mt sl.length := by
  have hl := A_gl_len (σ := σ) (nm := nm) 14
  have hle := hp.length_eq
  have hmem : ∀ y ∈ sl, (0 ≤ y.2 ∧ y.2 ≤ 13) ∧ 1 ≤ σ 34 y.2.toNat := by
    intro y hy
    obtain ⟨g, g1, rfl, g3⟩ := A_gl_mem 14 (hp.mem_iff.mp hy)
    refine ⟨⟨by show (0 : Int) ≤ ((g : Nat) : Int); omega, by show ((g : Nat) : Int) ≤ 13; omega⟩, ?_⟩
    show 1 ≤ σ 34 ((g : Nat) : Int).toNat
    rw [Int.toNat_natCast]; omega
  have hsum : A_sm (fun p => σ' 34 (σ' 37 p).toNat) sl.length = mt := by
    refine (A_sm_cg (f := fun p => (fun g : Int => σ 34 g.toNat) (A_at sl p).2) sl.length (fun j hj => by show σ' 34 (σ' 37 j).toNat = σ 34 (A_at sl j).2.toNat; rw [h37 j hj, h34])).trans ((A_lk_sm (h := fun g => σ 34 g.toNat) sl).trans ?_)
    rw [A_lk_perm hp, A_lk_gl 14 hG.2.1]
    exact hG.2.2.1
  refine ⟨h14, by omega, fun p hp' => ?_, fun e => absurd e (by omega), fun _ => ⟨?_, hsum, fun _ p hp' => ?_⟩⟩
  · rw [h37 p hp']
    have := (hmem _ (A_at_mem hp')).1
    exact ⟨⟨this.1, by omega⟩, fun _ => this⟩
  · have := A_lk_ge (h := fun g => σ 34 g.toNat) sl (fun y hy => (hmem y hy).2)
    rw [A_lk_perm hp, A_lk_gl 14 hG.2.1, hG.2.2.1] at this
    omega
  · rw [h37 p hp', h34]
    exact (hmem _ (A_at_mem hp')).2
/-- the results in another order -/
theorem A_res_srt {σ σ' : P_A} {f : Int → Int} {gth gp mt : Int} {sz : Nat} (hR : A_res σ gth gp mt sz) (h14 : σ' 31 14 = σ 31 14) (h34 : ∀ b, σ' 34 b = σ 34 b) (hS : A_srt f (fun p => σ 37 p.toNat) sz σ') : A_res σ' gth gp mt sz := by
  obtain ⟨sl, hp, -, h37⟩ := hS
  have hle : sl.length = sz := by rw [hp.length_eq, A_mk_len]
  obtain ⟨r1, r2, r3, r4, r5⟩ := hR
  have hmem : ∀ y ∈ sl, ∃ p, p < sz ∧ y.2 = σ 37 p := by
    intro y hy
    obtain ⟨p, hp1, rfl⟩ := A_mk_mem (hp.mem_iff.mp hy)
    exact ⟨p, hp1, rfl⟩
  have key : ∀ p, p < sz → ∃ q, q < sz ∧ σ' 37 p = σ 37 q := by
    intro p hp'
    rw [h37 p (by omega)]
    exact hmem _ (A_at_mem (by omega))
  refine ⟨h14.trans r1, r2, fun p hp' => ?_, r4, fun g => ⟨(r5 g).1, ?_, fun hg p hp' => ?_⟩⟩
  · obtain ⟨q, q1, q2⟩ := key p hp'
    rw [q2]
    exact r3 q q1
  · rw [← (r5 g).2.1, ← hle]
    refine (A_sm_cg (f := fun p => (fun g : Int => σ 34 g.toNat) (A_at sl p).2) sl.length (fun j hj => by show σ' 34 (σ' 37 j).toNat = σ 34 (A_at sl j).2.toNat; rw [h37 j hj, h34])).trans ((A_lk_sm (h := fun g => σ 34 g.toNat) sl).trans ((A_lk_perm hp).trans ((A_lk_sm (h := fun g => σ 34 g.toNat) _).symm.trans ?_)))
    rw [A_mk_len, hle]
    exact A_sm_cg sz (fun j hj => by show σ 34 (A_at (A_mk _ _ sz) j).2.toNat = σ 34 (σ 37 j).toNat; rw [A_mk_at hj]; rfl)
  · obtain ⟨q, q1, q2⟩ := key p hp'
    rw [q2, h34]
    exact (r5 g).2.2 hg q q1
/-- in order of an item -/
def A_sor (σ : P_A) (V : Int → Int → Int → Int) (rw ki ci : Int → Int) (gth : Int) (sz : Nat) (j : Int) : Prop := ∀ p q : Nat, p < q → q < sz → A_av σ V rw ki ci gth (p : Int) j ≤ A_av σ V rw ki ci gth (q : Int) j
theorem A_sor_srt {σ σ' : P_A} {V : Int → Int → Int → Int} {rw ki ci : Int → Int} {gth j : Int} {sz : Nat} (h34 : ∀ b, σ' 34 b = σ 34 b) (h35 : ∀ b, σ' 35 b = σ 35 b) (h36 : ∀ b, σ' 36 b = σ 36 b) (hS : A_srt (fun p => A_av σ V rw ki ci gth p j) (fun p => σ 37 p.toNat) sz σ') : A_sor σ' V rw ki ci gth sz j := by
  obtain ⟨sl, hp, hi, h37⟩ := hS
  have hle : sl.length = sz := by rw [hp.length_eq, A_mk_len]
  have hkey : ∀ p : Nat, p < sz → A_av σ' V rw ki ci gth (p : Int) j = (A_at sl p).1 := by
    intro p hp'
    obtain ⟨q, q1, q2⟩ := A_mk_mem (hp.mem_iff.mp (A_at_mem (l := sl) (j := p) (by omega)))
    have e : σ' 37 p = σ 37 q := by rw [h37 p (by omega), q2]; rfl
    rw [q2]
    unfold A_av A_gv
    simp only [Int.toNat_natCast, e, h34, h35, h36]
  intro p q h1 h2
  rw [hkey p (by omega), hkey q h2]
  have hpw := List.pairwise_iff_getElem.mp hi p q (by omega) (by omega) h1
  unfold A_at
  rw [List.getD_eq_getElem?_getD, List.getD_eq_getElem?_getD, List.getElem?_eq_getElem (show p < sl.length by omega), List.getElem?_eq_getElem (show q < sl.length by omega)]
  exact hpw
theorem A_nm_rg {σ : P_A} {ns : Int} {tb : Int → Nat} {rw cl : Int → Int} {V : Int → Int → Int → Int} {gp g : Int} (hX : A_X σ ns tb rw cl V) (hgp : A_cok ns cl gp) (hg : 0 ≤ g) : -999 ≤ A_nm V rw gp g ∧ A_nm V rw gp g ≤ 999 := by
  unfold A_nm
  unfold A_cok at hgp
  split
  · exact ((hX _ (by omega) (by omega)).2 _ _ (by omega) (by omega) hg (by omega)).2
  · omega
/-- what values of an item there may be -/
theorem A_F14 {σ : P_A} {ns : Int} {tb : Int → Nat} {rw cl : Int → Int} {V : Int → Int → Int → Int} {it : Int} {ki ci : Int → Int} {gp oi lm mt j : Int} {sz : Nat} (hF : A_F σ ns cl it ki ci gp oi lm) (hX : A_X σ ns tb rw cl V) (hGr : A_gth ki it gp = 1 → A_Gr σ) (hR : A_res σ (A_gth ki it gp) gp mt sz) (hj : 0 ≤ j ∧ j < it) :
    ∃ F : List Int, F.length ≤ 14 ∧ ∀ p : Nat, p < sz → A_av σ V rw ki ci (A_gth ki it gp) (p : Int) j ∈ F ∧ -1000000000 < A_av σ V rw ki ci (A_gth ki it gp) (p : Int) j ∧ A_av σ V rw ki ci (A_gth ki it gp) (p : Int) j < 1000000000 := by
  have hit := hF.2.1
  by_cases g : A_gth ki it gp = 1
  · refine ⟨(List.range 14).map (fun r : Nat => A_gv σ V rw ki ci (r : Int) j), by simp, fun p hp => ?_⟩
    have h := (hR.2.2.1 p hp).2 g
    have e : A_av σ V rw ki ci (A_gth ki it gp) (p : Int) j = A_gv σ V rw ki ci (σ 37 p) j := by
      unfold A_av
      rw [if_pos g, Int.toNat_natCast]
    have hr := A_gv_rg (g := σ 37 p) (V := V) (rw := rw) (hGr g) hX h (by omega) (fun h7 => (hF.2.2.1 j hj.1 hj.2).2.2.2.2 h7)
    rw [e]
    refine ⟨List.mem_map.mpr ⟨(σ 37 p).toNat, List.mem_range.mpr (by omega), by rw [Int.toNat_of_nonneg h.1]⟩, by omega, by omega⟩
  · have g0 : A_gth ki it gp = 0 := by have := A_gth_rg (ki := ki) (it := it) (gp := gp); omega
    have hk : ki j = -1 := (A_gth_0 (by omega) g0).2 j hj.1 hj.2
    have hc := (hF.2.2.1 j hj.1 hj.2).2.2.2.2 (by omega)
    refine ⟨(List.range 14).map (fun r : Nat => if ((r : Nat) : Int) < rw ((ci j - 100) / 10) then V ((ci j - 100) / 10) ((ci j - 100) % 10) (r : Int) else 0), by simp, fun p hp => ?_⟩
    have h := (hR.2.2.1 p hp).1
    have e : A_av σ V rw ki ci (A_gth ki it gp) (p : Int) j = A_ce V rw (σ 37 p) (ci j) := by
      unfold A_av
      rw [if_neg g, Int.toNat_natCast]
    have hr := A_ce_rg hX h hc
    have hrow := A_row_rg (s := (ci j - 100) / 10) h
    rw [e]
    refine ⟨List.mem_map.mpr ⟨(A_row (σ 37 p) ((ci j - 100) / 10)).toNat, List.mem_range.mpr (by omega), ?_⟩, by omega, by omega⟩
    rw [Int.toNat_of_nonneg hrow.1]
    rfl

theorem s_upA {w : P_Lw} (hw : P_Cw w) {d : Nat} {Q : P_R → P_A → Prop} {σ : P_A} {ns : Int} {tb : Int → Nat} {rw : Int → Int} {vr : Int → Int → Int} {cl : Int → Int} {V : Int → Int → Int → Int} {it : Int} {ki ci : Int → Int} {gp oi lm : Int} (hA : A_V w σ ns tb rw vr) (hX : A_X σ ns tb rw cl V) (hF : A_F σ ns cl it ki ci gp oi lm) {rd ck mt : Int} (hI : A_Inv ns cl it ki ci gp oi lm rd ck mt σ) (hmt : mt ≤ 2744) (q : ∀ (σ' : P_A) (sz : Nat), (∀ a b, ¬ (a = 37 ∨ a = 40 ∨ a = 41) → ¬ (a = 31 ∧ b = 14) → σ' a b = σ a b) → A_res σ' (A_gth ki it gp) gp mt sz → P_aw w (d + 11) 3 57 [.ref (w.2.2 31)] [] σ' Q) : P_aw w (d + 11) 3 43 [.ref (w.2.2 31)] [] σ Q := by
  refine P_aw_op (L' := [.ref (w.2.2 31)]) (st' := [.ref (w.2.2 31)]) P_i3_43 rfl (show P_aw _ _ _ 44 [.ref (w.2.2 31)] [.ref (w.2.2 31)] _ _ from ?_)
  refine P_aw_getR P_i3_44 (hw.2.1 31 (by decide)) (hw.s rfl) rfl rfl (show P_aw _ _ _ 47 [.ref (w.2.2 31)] [.ref (w.2.2 6)] _ _ from ?_)
  have hp1 := A_gth_rg (ki := ki) (it := it) (gp := gp)
  refine P_aw_call P_i3_47 rfl rfl (fun _ => rfl) rfl rfl rfl rfl (y2 := 42) (as := [.ref (w.2.2 6)]) (r0 := []) (P_inv_v (hw.2.1 6 (by decide)) (hw.s rfl) rfl rfl) (Nat.le_of_ble_eq_true rfl) (by decide) rfl (Nat.le_of_ble_eq_true rfl) (s_gth hw hF ?_)
  show P_aw _ _ _ 50 [.ref (w.2.2 31)] [P_z (A_gth ki it gp)] _ _
  by_cases hc2 : (A_gth ki it gp) = 0
  · refine P_aw_izt P_i3_50 ⟨by omega, by omega⟩ (P_ci_eqt (by omega)) (show P_aw _ _ _ 57 [.ref (w.2.2 31)] [] _ _ from ?_)
    exact q σ mt.toNat (fun _ _ _ _ => rfl) (by have g : A_gth ki it gp = 0 := (by omega); obtain ⟨p1, p2, p3, p4⟩ := hI.2.2.1 g; exact ⟨by rw [p1]; omega, by omega, fun p hp => ⟨(p4 p (by omega) (by omega)).1, fun e => by omega⟩, fun _ => by omega, fun e => by omega⟩)
  · refine P_aw_izf P_i3_50 ⟨by omega, by omega⟩ (P_ci_eqf (by omega)) (show P_aw _ _ _ 53 [.ref (w.2.2 31)] [] _ _ from ?_)
    refine P_aw_op (L' := [.ref (w.2.2 31)]) (st' := [.ref (w.2.2 31)]) P_i3_53 rfl (show P_aw _ _ _ 54 [.ref (w.2.2 31)] [.ref (w.2.2 31)] _ _ from ?_)
    have g : A_gth ki it gp = 1 := by omega
    obtain ⟨hG, h14⟩ := hI.2.2.2 g
    by_cases hgp : gp = -1
    · subst hgp
      refine P_aw_call P_i3_54 rfl rfl (fun _ => rfl) rfl rfl rfl rfl (y2 := 10) (as := [.ref (w.2.2 31)]) (r0 := []) (P_inv_v (hw.2.1 31 (by decide)) (hw.s rfl) rfl rfl) (Nat.le_of_ble_eq_true rfl) (by decide) rfl (Nat.le_of_ble_eq_true rfl) (s_lg0 hw hF (fun σ' k1 k2 k3 => ?_))
      have hq := q σ' 1 (fun a b h h2 => k1 a b (by omega) h2) ⟨k3, by omega, fun p hp => by rw [show p = 0 by omega, k2]; exact ⟨by omega, fun _ => by omega⟩, fun e => by omega, fun _ => ⟨by have := hG.1; omega, by show 0 + σ' 34 (σ' 37 0).toNat = mt; rw [k2, k1 34 _ (by omega) (by omega)]; have := hG.2.2.2.1 rfl; show 0 + σ 34 0 = mt; omega, fun e => absurd rfl e⟩⟩
      exact hq
    · have hcok : A_cok ns cl gp := (hF.2.2.2.2.1).resolve_left hgp
      refine P_aw_call P_i3_54 rfl rfl (fun _ => rfl) rfl rfl rfl rfl (y2 := 10) (as := [.ref (w.2.2 31)]) (r0 := []) (P_inv_v (hw.2.1 31 (by decide)) (hw.s rfl) rfl rfl) (Nat.le_of_ble_eq_true rfl) (by decide) rfl (Nat.le_of_ble_eq_true rfl) (s_lg hw hA hX hF hgp (fun j hj => ⟨hG.2.1 j hj, by have := A_sm_le 14 hG.2.1 j hj; rw [hG.2.2.1] at this; omega⟩) h14 (fun g hg => A_nm_rg hX hcok hg) (fun σ' sl k1 k2 k3 k4 k5 => ?_))
      have hq := q σ' sl.length k3 (by rw [g]; exact A_res_gl hmt hG k1 k4 k5 (fun b => k3 34 b (by omega) (by omega)))
      exact hq

theorem A_res_cg {σ σ' : P_A} {gth gp mt : Int} {sz : Nat} (h : ∀ a b, (a = 31 ∧ b = 14) ∨ (34 ≤ a ∧ a ≤ 37) → σ' a b = σ a b) (hR : A_res σ gth gp mt sz) : A_res σ' gth gp mt sz := by
  obtain ⟨r1, r2, r3, r4, r5⟩ := hR
  have e37 : ∀ b, σ' 37 b = σ 37 b := fun b => h 37 b (by omega)
  have e34 : ∀ b, σ' 34 b = σ 34 b := fun b => h 34 b (by omega)
  refine ⟨(h 31 14 (by omega)).trans r1, r2, fun p hp => by rw [e37]; exact r3 p hp, r4, fun g => ⟨(r5 g).1, ?_, fun hg p hp => by rw [e37, e34]; exact (r5 g).2.2 hg p hp⟩⟩
  rw [← (r5 g).2.1]
  exact A_sm_cg sz (fun j _ => by show σ' 34 (σ' 37 j).toNat = σ 34 (σ 37 j).toNat; rw [e37, e34])
theorem A_sor_cg {σ σ' : P_A} {V : Int → Int → Int → Int} {rw ki ci : Int → Int} {gth j : Int} {sz : Nat} (h : ∀ a b, 34 ≤ a ∧ a ≤ 37 → σ' a b = σ a b) (hs : A_sor σ V rw ki ci gth sz j) : A_sor σ' V rw ki ci gth sz j := by
  have e : ∀ p : Int, A_av σ' V rw ki ci gth p j = A_av σ V rw ki ci gth p j := fun p => by
    unfold A_av A_gv
    rw [h 37 _ (by omega), h 34 _ (by omega), h 36 _ (by omega), h 35 _ (by omega)]
  intro p q h1 h2
  rw [e, e]
  exact hs p q h1 h2
theorem s_upB {w : P_Lw} (hw : P_Cw w) {d : Nat} {Q : P_R → P_A → Prop} {σ : P_A} {ns : Int} {tb : Int → Nat} {rw : Int → Int} {vr : Int → Int → Int} {cl : Int → Int} {V : Int → Int → Int → Int} {it : Int} {ki ci : Int → Int} {gp oi lm : Int} (hA : A_V w σ ns tb rw vr) (hX : A_X σ ns tb rw cl V) (hF : A_F σ ns cl it ki ci gp oi lm) {mt : Int} {sz : Nat} (hGr : A_gth ki it gp = 1 → A_Gr σ) (hR : A_res σ (A_gth ki it gp) gp mt sz) (q : ∀ (σ' : P_A), (∀ a b, ¬ (a = 37 ∨ a = 40 ∨ a = 41) → ¬ (a = 31 ∧ (b = 15 ∨ b = 16)) → σ' a b = σ a b) → σ' 31 15 = min ((sz : Nat) : Int) lm → σ' 31 16 = 1 → A_res σ' (A_gth ki it gp) gp mt sz → (oi ≠ -1 → A_sor σ' V rw ki ci (A_gth ki it gp) sz oi) → Q (.inl none) σ') : P_aw w (d + 11) 3 57 [.ref (w.2.2 31)] [] σ Q := by
  have hsz27 := hR.2.1
  refine P_aw_op (L' := [.ref (w.2.2 31)]) (st' := [.ref (w.2.2 31)]) P_i3_57 rfl (show P_aw _ _ _ 58 [.ref (w.2.2 31)] [.ref (w.2.2 31)] _ _ from ?_)
  refine P_aw_getR P_i3_58 (hw.2.1 31 (by decide)) (hw.s rfl) rfl rfl (show P_aw _ _ _ 61 [.ref (w.2.2 31)] [.ref (w.2.2 6)] _ _ from ?_)
  refine P_aw_call P_i3_61 rfl rfl (fun _ => rfl) rfl rfl rfl rfl (y2 := 32) (as := [.ref (w.2.2 6)]) (r0 := []) (P_inv_v (hw.2.1 6 (by decide)) (hw.s rfl) rfl rfl) (Nat.le_of_ble_eq_true rfl) (by decide) rfl (Nat.le_of_ble_eq_true rfl) (show P_aw _ _ _ 0 [.ref (w.2.2 6)] [] _ _ from ?_)
  refine P_aw_op (L' := [.ref (w.2.2 6)]) (st' := [.ref (w.2.2 6)]) P_i32_0 rfl (show P_aw _ _ _ 1 [.ref (w.2.2 6)] [.ref (w.2.2 6)] _ _ from ?_)
  have hg1 := hF.2.2.2.2.2.2.1
  have hg2 := hF.2.1
  refine P_aw_getv P_i32_1 (hw.2.1 6 (by decide)) (hw.s rfl) rfl rfl (hF.2.2.2.2.2.1) (show P_aw _ _ _ 4 [.ref (w.2.2 6)] [P_z oi] _ _ from ?_)
  refine P_aw_end P_i32_4 rfl rfl (fun _ => rfl) rfl ?_
  show P_aw _ _ _ 64 [.ref (w.2.2 31)] [P_z oi] _ _
  refine P_aw_op (L' := [.ref (w.2.2 31)]) (st' := [P_z (-1), P_z oi]) P_i3_64 rfl (show P_aw _ _ _ 65 [.ref (w.2.2 31)] [P_z (-1), P_z oi] _ _ from ?_)
  by_cases hc3 : oi = (-1)
  · refine P_aw_ict P_i3_65 ⟨by omega, by omega⟩ ⟨by decide, by decide⟩ (P_ci_eqt (by omega)) (show P_aw _ _ _ 79 [.ref (w.2.2 31)] [] _ _ from ?_)
    refine P_aw_op (L' := [.ref (w.2.2 31)]) (st' := [.ref (w.2.2 31)]) P_i3_79 rfl (show P_aw _ _ _ 80 [.ref (w.2.2 31)] [.ref (w.2.2 31)] _ _ from ?_)
    refine P_aw_op (L' := [.ref (w.2.2 31)]) (st' := [.ref (w.2.2 31), .ref (w.2.2 31)]) P_i3_80 rfl (show P_aw _ _ _ 81 [.ref (w.2.2 31)] [.ref (w.2.2 31), .ref (w.2.2 31)] _ _ from ?_)
    refine P_aw_getv P_i3_81 (hw.2.1 31 (by decide)) (hw.s rfl) rfl rfl (hR.1) (show P_aw _ _ _ 84 [.ref (w.2.2 31)] [P_z ((sz : Nat) : Int), .ref (w.2.2 31)] _ _ from ?_)
    refine P_aw_op (L' := [.ref (w.2.2 31)]) (st' := [.ref (w.2.2 31), P_z ((sz : Nat) : Int), .ref (w.2.2 31)]) P_i3_84 rfl (show P_aw _ _ _ 85 [.ref (w.2.2 31)] [.ref (w.2.2 31), P_z ((sz : Nat) : Int), .ref (w.2.2 31)] _ _ from ?_)
    refine P_aw_getR P_i3_85 (hw.2.1 31 (by decide)) (hw.s rfl) rfl rfl (show P_aw _ _ _ 88 [.ref (w.2.2 31)] [.ref (w.2.2 6), P_z ((sz : Nat) : Int), .ref (w.2.2 31)] _ _ from ?_)
    refine P_aw_call P_i3_88 rfl rfl (fun _ => rfl) rfl rfl rfl rfl (y2 := 33) (as := [.ref (w.2.2 6)]) (r0 := [P_z ((sz : Nat) : Int), .ref (w.2.2 31)]) (P_inv_v (hw.2.1 6 (by decide)) (hw.s rfl) rfl rfl) (Nat.le_of_ble_eq_true rfl) (by decide) rfl (Nat.le_of_ble_eq_true rfl) (show P_aw _ _ _ 0 [.ref (w.2.2 6)] [] _ _ from ?_)
    refine P_aw_op (L' := [.ref (w.2.2 6)]) (st' := [.ref (w.2.2 6)]) P_i33_0 rfl (show P_aw _ _ _ 1 [.ref (w.2.2 6)] [.ref (w.2.2 6)] _ _ from ?_)
    have hg4 := hF.2.2.2.2.2.2.2.2
    refine P_aw_getv P_i33_1 (hw.2.1 6 (by decide)) (hw.s rfl) rfl rfl (hF.2.2.2.2.2.2.2.1) (show P_aw _ _ _ 4 [.ref (w.2.2 6)] [P_z lm] _ _ from ?_)
    refine P_aw_end P_i33_4 rfl rfl (fun _ => rfl) rfl ?_
    show P_aw _ _ _ 91 [.ref (w.2.2 31)] [P_z lm, P_z ((sz : Nat) : Int), .ref (w.2.2 31)] _ _
    refine P_aw_jdk P_i3_91 rfl rfl (fun _ => rfl) rfl (P_jdk_min ⟨by omega, by omega⟩ ⟨by omega, by omega⟩ (Nat.le_of_ble_eq_true rfl)) (show P_aw _ _ _ 94 [.ref (w.2.2 31)] [P_z (min ((sz : Nat) : Int) lm), .ref (w.2.2 31)] _ _ from ?_)
    refine P_aw_put P_i3_94 (hw.2.1 31 (by decide)) (hw.s rfl) rfl rfl rfl (show P_aw _ _ _ 97 [.ref (w.2.2 31)] [] _ _ from ?_)
    refine P_aw_op (L' := [.ref (w.2.2 31)]) (st' := [.ref (w.2.2 31)]) P_i3_97 rfl (show P_aw _ _ _ 98 [.ref (w.2.2 31)] [.ref (w.2.2 31)] _ _ from ?_)
    refine P_aw_op (L' := [.ref (w.2.2 31)]) (st' := [P_z 1, .ref (w.2.2 31)]) P_i3_98 rfl (show P_aw _ _ _ 99 [.ref (w.2.2 31)] [P_z 1, .ref (w.2.2 31)] _ _ from ?_)
    refine P_aw_put P_i3_99 (hw.2.1 31 (by decide)) (hw.s rfl) rfl rfl rfl (show P_aw _ _ _ 102 [.ref (w.2.2 31)] [] _ _ from ?_)
    refine P_aw_end P_i3_102 rfl rfl (fun _ => rfl) rfl ?_
    exact q _ (fun a b h h2 => (P_u2_ne (by omega)).trans ((P_u2_ne (by omega)).trans rfl)) ((P_u2_ne (by omega)).trans P_u2_at) P_u2_at (A_res_cg (fun a b h => (P_u2_ne (by omega)).trans (P_u2_ne (by omega))) hR) (fun e => absurd (by omega) e)
  · refine P_aw_icf P_i3_65 ⟨by omega, by omega⟩ ⟨by decide, by decide⟩ (P_ci_eqf (by omega)) (show P_aw _ _ _ 68 [.ref (w.2.2 31)] [] _ _ from ?_)
    refine P_aw_op (L' := [.ref (w.2.2 31)]) (st' := [.ref (w.2.2 31)]) P_i3_68 rfl (show P_aw _ _ _ 69 [.ref (w.2.2 31)] [.ref (w.2.2 31)] _ _ from ?_)
    refine P_aw_op (L' := [.ref (w.2.2 31)]) (st' := [.ref (w.2.2 31), .ref (w.2.2 31)]) P_i3_69 rfl (show P_aw _ _ _ 70 [.ref (w.2.2 31)] [.ref (w.2.2 31), .ref (w.2.2 31)] _ _ from ?_)
    refine P_aw_getR P_i3_70 (hw.2.1 31 (by decide)) (hw.s rfl) rfl rfl (show P_aw _ _ _ 73 [.ref (w.2.2 31)] [.ref (w.2.2 6), .ref (w.2.2 31)] _ _ from ?_)
    refine P_aw_call P_i3_73 rfl rfl (fun _ => rfl) rfl rfl rfl rfl (y2 := 32) (as := [.ref (w.2.2 6)]) (r0 := [.ref (w.2.2 31)]) (P_inv_v (hw.2.1 6 (by decide)) (hw.s rfl) rfl rfl) (Nat.le_of_ble_eq_true rfl) (by decide) rfl (Nat.le_of_ble_eq_true rfl) (show P_aw _ _ _ 0 [.ref (w.2.2 6)] [] _ _ from ?_)
    refine P_aw_op (L' := [.ref (w.2.2 6)]) (st' := [.ref (w.2.2 6)]) P_i32_0 rfl (show P_aw _ _ _ 1 [.ref (w.2.2 6)] [.ref (w.2.2 6)] _ _ from ?_)
    have hg4 := hF.2.2.2.2.2.2.1
    have hg5 := hF.2.1
    refine P_aw_getv P_i32_1 (hw.2.1 6 (by decide)) (hw.s rfl) rfl rfl (hF.2.2.2.2.2.1) (show P_aw _ _ _ 4 [.ref (w.2.2 6)] [P_z oi] _ _ from ?_)
    refine P_aw_end P_i32_4 rfl rfl (fun _ => rfl) rfl ?_
    show P_aw _ _ _ 76 [.ref (w.2.2 31)] [P_z oi, .ref (w.2.2 31)] _ _
    obtain ⟨F, hF14, hFm⟩ := A_F14 (j := oi) hF hX hGr hR (by omega)
    refine P_aw_call P_i3_76 rfl rfl (fun _ => rfl) rfl rfl rfl rfl (y2 := 11) (as := [.ref (w.2.2 31), P_z oi]) (r0 := []) (P_inv_v (hw.2.1 31 (by decide)) (hw.s rfl) rfl rfl) (Nat.le_of_ble_eq_true rfl) (by decide) rfl (Nat.le_of_ble_eq_true rfl) (s_si hw hA hX hF hGr hR.2.1 (by omega) (fun p hp => hR.2.2.1 p hp) hR.1 hF14 (fun p hp => (hFm p hp).1) (fun p hp => (hFm p hp).2) (fun σ2 k1 k2 => ?_))
    have hR2 := A_res_srt hR (k1 31 14 (by omega)) (fun b => k1 34 b (by omega)) k2
    have hso := A_sor_srt (fun b => k1 34 b (by omega)) (fun b => k1 35 b (by omega)) (fun b => k1 36 b (by omega)) k2
    have hF2 := A_F_cg (fun a b h h2 => k1 a b (by omega)) hF
    show P_aw _ _ _ 79 [.ref (w.2.2 31)] [] _ _
    refine P_aw_op (L' := [.ref (w.2.2 31)]) (st' := [.ref (w.2.2 31)]) P_i3_79 rfl (show P_aw _ _ _ 80 [.ref (w.2.2 31)] [.ref (w.2.2 31)] _ _ from ?_)
    refine P_aw_op (L' := [.ref (w.2.2 31)]) (st' := [.ref (w.2.2 31), .ref (w.2.2 31)]) P_i3_80 rfl (show P_aw _ _ _ 81 [.ref (w.2.2 31)] [.ref (w.2.2 31), .ref (w.2.2 31)] _ _ from ?_)
    refine P_aw_getv P_i3_81 (hw.2.1 31 (by decide)) (hw.s rfl) rfl rfl (hR2.1) (show P_aw _ _ _ 84 [.ref (w.2.2 31)] [P_z ((sz : Nat) : Int), .ref (w.2.2 31)] _ _ from ?_)
    refine P_aw_op (L' := [.ref (w.2.2 31)]) (st' := [.ref (w.2.2 31), P_z ((sz : Nat) : Int), .ref (w.2.2 31)]) P_i3_84 rfl (show P_aw _ _ _ 85 [.ref (w.2.2 31)] [.ref (w.2.2 31), P_z ((sz : Nat) : Int), .ref (w.2.2 31)] _ _ from ?_)
    refine P_aw_getR P_i3_85 (hw.2.1 31 (by decide)) (hw.s rfl) rfl rfl (show P_aw _ _ _ 88 [.ref (w.2.2 31)] [.ref (w.2.2 6), P_z ((sz : Nat) : Int), .ref (w.2.2 31)] _ _ from ?_)
    refine P_aw_call P_i3_88 rfl rfl (fun _ => rfl) rfl rfl rfl rfl (y2 := 33) (as := [.ref (w.2.2 6)]) (r0 := [P_z ((sz : Nat) : Int), .ref (w.2.2 31)]) (P_inv_v (hw.2.1 6 (by decide)) (hw.s rfl) rfl rfl) (Nat.le_of_ble_eq_true rfl) (by decide) rfl (Nat.le_of_ble_eq_true rfl) (show P_aw _ _ _ 0 [.ref (w.2.2 6)] [] _ _ from ?_)
    refine P_aw_op (L' := [.ref (w.2.2 6)]) (st' := [.ref (w.2.2 6)]) P_i33_0 rfl (show P_aw _ _ _ 1 [.ref (w.2.2 6)] [.ref (w.2.2 6)] _ _ from ?_)
    have hg6 := hF2.2.2.2.2.2.2.2.2
    refine P_aw_getv P_i33_1 (hw.2.1 6 (by decide)) (hw.s rfl) rfl rfl (hF2.2.2.2.2.2.2.2.1) (show P_aw _ _ _ 4 [.ref (w.2.2 6)] [P_z lm] _ _ from ?_)
    refine P_aw_end P_i33_4 rfl rfl (fun _ => rfl) rfl ?_
    show P_aw _ _ _ 91 [.ref (w.2.2 31)] [P_z lm, P_z ((sz : Nat) : Int), .ref (w.2.2 31)] _ _
    refine P_aw_jdk P_i3_91 rfl rfl (fun _ => rfl) rfl (P_jdk_min ⟨by omega, by omega⟩ ⟨by omega, by omega⟩ (Nat.le_of_ble_eq_true rfl)) (show P_aw _ _ _ 94 [.ref (w.2.2 31)] [P_z (min ((sz : Nat) : Int) lm), .ref (w.2.2 31)] _ _ from ?_)
    refine P_aw_put P_i3_94 (hw.2.1 31 (by decide)) (hw.s rfl) rfl rfl rfl (show P_aw _ _ _ 97 [.ref (w.2.2 31)] [] _ _ from ?_)
    refine P_aw_op (L' := [.ref (w.2.2 31)]) (st' := [.ref (w.2.2 31)]) P_i3_97 rfl (show P_aw _ _ _ 98 [.ref (w.2.2 31)] [.ref (w.2.2 31)] _ _ from ?_)
    refine P_aw_op (L' := [.ref (w.2.2 31)]) (st' := [P_z 1, .ref (w.2.2 31)]) P_i3_98 rfl (show P_aw _ _ _ 99 [.ref (w.2.2 31)] [P_z 1, .ref (w.2.2 31)] _ _ from ?_)
    refine P_aw_put P_i3_99 (hw.2.1 31 (by decide)) (hw.s rfl) rfl rfl rfl (show P_aw _ _ _ 102 [.ref (w.2.2 31)] [] _ _ from ?_)
    refine P_aw_end P_i3_102 rfl rfl (fun _ => rfl) rfl ?_
    exact q _ (fun a b h h2 => (P_u2_ne (by omega)).trans ((P_u2_ne (by omega)).trans (k1 a b h))) ((P_u2_ne (by omega)).trans P_u2_at) P_u2_at (A_res_cg (fun a b h => (P_u2_ne (by omega)).trans (P_u2_ne (by omega))) hR2) (fun _ => A_sor_cg (fun a b h => (P_u2_ne (by omega)).trans (P_u2_ne (by omega))) hso)

/-- what is known when the answer is: reads, checks, results -/
def A_ka (σ : P_A) (V : Int → Int → Int → Int) (rw : Int → Int) (it : Int) (ki ci : Int → Int) (gp oi lm rd ck mt : Int) (sz : Nat) : Prop :=
  σ 31 16 = 1 ∧ σ 31 5 = rd ∧ σ 31 6 = ck ∧ σ 31 15 = min ((sz : Nat) : Int) lm ∧ A_res σ (A_gth ki it gp) gp mt sz ∧ (A_gth ki it gp = 1 → A_Gr σ) ∧ (oi ≠ -1 → A_sor σ V rw ki ci (A_gth ki it gp) sz oi) ∧
  (A_gth ki it gp = 0 → ∀ j : Nat, j < sz → (0 ≤ σ 38 j ∧ σ 38 j ≤ rd) ∧ (0 ≤ σ 39 j ∧ σ 39 j ≤ ck))
theorem A_ka_cg {σ σ' : P_A} {V : Int → Int → Int → Int} {rw : Int → Int} {it : Int} {ki ci : Int → Int} {gp oi lm rd ck mt : Int} {sz : Nat} (h : ∀ a b, 31 ≤ a ∧ a ≤ 39 → σ' a b = σ a b) (hk : A_ka σ V rw it ki ci gp oi lm rd ck mt sz) : A_ka σ' V rw it ki ci gp oi lm rd ck mt sz := by
  obtain ⟨k1, k2, k3, k4, k5, k6, k7, k8⟩ := hk
  refine ⟨(h _ _ (by omega)).trans k1, (h _ _ (by omega)).trans k2, (h _ _ (by omega)).trans k3, (h _ _ (by omega)).trans k4, A_res_cg (fun a b q => h a b (by omega)) k5, fun g => ?_, fun o => A_sor_cg (fun a b q => h a b (by omega)) (k7 o), fun g j hj => by rw [h 38 j (by omega), h 39 j (by omega)]; exact k8 g j hj⟩
  obtain ⟨g1, g2, g3⟩ := k6 g
  exact ⟨fun j hj => by rw [h 34 j (by omega)]; exact g1 j hj, fun j hj => by rw [h 35 j (by omega)]; exact g2 j hj, fun j hj => by rw [h 36 j (by omega)]; exact g3 j hj⟩

/-- bringUpToDate, where the answer isn't known -/
theorem s_up {w : P_Lw} (hw : P_Cw w) {d : Nat} {Q : P_R → P_A → Prop} {σ : P_A} {ns : Int} {tb : Int → Nat} {rw : Int → Int} {vr : Int → Int → Int} {cl : Int → Int} {V : Int → Int → Int → Int} {cs : List A_cd} {od : Int → Int} {it : Int} {ki ci : Int → Int} {gp oi lm : Int} (hA : A_V w σ ns tb rw vr) (hX : A_X σ ns tb rw cl V) (hF : A_F σ ns cl it ki ci gp oi lm) (hK : A_KL σ cs) (hO : A_O σ ns od) (hok : A_oks ns cs) (htk : A_tks ns cl cs) {nv : Int} (hN : σ 13 5 = nv) (hn01 : 0 ≤ nv ∧ nv ≤ 1) (hk0 : σ 31 16 = 0) (hmt : (A_go (A_ms nv oi (A_gth ki it gp) lm) (fun p ρ => A_hl (A_val V rw ρ) p (-1) cs 0) od rw ns.toNat 0 (fun _ => 0, 0, 0, 0)).2.2.2 ≤ 2744) (q : ∀ (σ' : P_A) (sz : Nat), (∀ a b, ¬ (31 ≤ a ∧ a ≤ 41) → σ' a b = σ a b) → (0 ≤ (A_go (A_ms nv oi (A_gth ki it gp) lm) (fun p ρ => A_hl (A_val V rw ρ) p (-1) cs 0) od rw ns.toNat 0 (fun _ => 0, 0, 0, 0)).2.1 ∧ 0 ≤ (A_go (A_ms nv oi (A_gth ki it gp) lm) (fun p ρ => A_hl (A_val V rw ρ) p (-1) cs 0) od rw ns.toNat 0 (fun _ => 0, 0, 0, 0)).2.2.1) → A_ka σ' V rw it ki ci gp oi lm (A_go (A_ms nv oi (A_gth ki it gp) lm) (fun p ρ => A_hl (A_val V rw ρ) p (-1) cs 0) od rw ns.toNat 0 (fun _ => 0, 0, 0, 0)).2.1 (A_go (A_ms nv oi (A_gth ki it gp) lm) (fun p ρ => A_hl (A_val V rw ρ) p (-1) cs 0) od rw ns.toNat 0 (fun _ => 0, 0, 0, 0)).2.2.1 (A_go (A_ms nv oi (A_gth ki it gp) lm) (fun p ρ => A_hl (A_val V rw ρ) p (-1) cs 0) od rw ns.toNat 0 (fun _ => 0, 0, 0, 0)).2.2.2 sz → Q (.inl none) σ') : P_aw w (d + 11) 3 0 [.ref (w.2.2 31)] [] σ Q := by
  refine s_up1 hw hA hX hF hK hO hok htk hN hn01 hk0 (fun s1 e1 e2 hW hI => ?_)
  have hA1 := A_V_cg (fun a b h => e1 a b (by omega)) hA
  have hX1 := A_X_cg (fun s a b => (hA.2.2 s a b).2.1.1) (fun a b h => e1 a b (by omega)) hX
  have hF1 := hI.1
  refine s_upA hw hA1 hX1 hF1 hI hmt (fun s2 sz f1 hR => ?_)
  have hA2 := A_V_cg (fun a b h => f1 a b (by omega) (by omega)) hA1
  have hX2 := A_X_cg (fun s a b => (hA.2.2 s a b).2.1.1) (fun a b h => f1 a b (by omega) (by omega)) hX1
  have hF2 := A_F_cg (fun a b h h2 => f1 a b (by omega) (by omega)) hF1
  have hGr : A_gth ki it gp = 1 → A_Gr s2 := fun g => by
    obtain ⟨g1, g2, g3⟩ := A_Gr_of (hI.2.2.2 g).1 hmt
    exact ⟨fun j hj => by rw [f1 34 j (by omega) (by omega)]; exact g1 j hj, fun j hj => by rw [f1 35 j (by omega) (by omega)]; exact g2 j hj, fun j hj => by rw [f1 36 j (by omega) (by omega)]; exact g3 j hj⟩
  refine s_upB hw hA2 hX2 hF2 hGr hR (fun s3 h1 h2 h3 h4 h5 => ?_)
  have ea : ∀ a b, ¬ (31 ≤ a ∧ a ≤ 41) → s3 a b = σ a b := fun a b h => (h1 a b (by omega) (by omega)).trans ((f1 a b (by omega) (by omega)).trans (e1 a b (by omega)))
  refine q s3 sz ea hI.2.1 ⟨h3, ?_, ?_, h2, h4, fun g => ?_, h5, fun g j hj => ?_⟩
  · exact (h1 31 5 (by omega) (by omega)).trans ((f1 31 5 (by omega) (by omega)).trans hW.2.2.2.1)
  · exact (h1 31 6 (by omega) (by omega)).trans ((f1 31 6 (by omega) (by omega)).trans hW.2.2.2.2.1)
  · obtain ⟨g1, g2, g3⟩ := hGr g
    exact ⟨fun j hj => by rw [h1 34 j (by omega) (by omega)]; exact g1 j hj, fun j hj => by rw [h1 35 j (by omega) (by omega)]; exact g2 j hj, fun j hj => by rw [h1 36 j (by omega) (by omega)]; exact g3 j hj⟩
  · have hsz := hR.2.2.2.1 g
    have hp := (hI.2.2.1 g).2.2.2 j (by omega) (by have := hR.2.1; omega)
    rw [h1 38 j (by omega) (by omega), f1 38 j (by omega) (by omega), h1 39 j (by omega) (by omega), f1 39 j (by omega) (by omega)]
    exact hp.2