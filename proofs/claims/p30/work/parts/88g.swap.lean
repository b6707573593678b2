/-! the law's own methods, written by wip/g1.py: 88g.swap -/
theorem G_O_xch {g : P_Gl} {τ : P_A} {G nn : Nat} {D : Nat} {od : Int → Int} (hO : P_gO g τ G D nn od) (hnn : 1 ≤ nn ∧ nn ≤ 3) {a b : Int} (ha : 0 ≤ a ∧ a < (nn : Int)) (hb : 0 ≤ b ∧ b < (nn : Int)) {va vb : Int} (hva : va = od b) (hvb : vb = od a) : P_gO g (P_u2 (P_u2 τ D a.toNat va) D b.toNat vb) G D nn (A_xch od a b) := by
  subst hva
  subst hvb
  obtain ⟨h1, h2, h3, h4⟩ := hO
  have hGD : G ≠ D := fun e => by rw [← e] at h2; cases h2.symm.trans h1.1
  refine ⟨⟨h1.1, (P_u2_ne (fun q => hGD q.1)).trans ((P_u2_ne (fun q => hGD q.1)).trans h1.2)⟩, h2, fun j j0 j1 => ?_, fun s s0 s1 => ?_⟩
  · have ha' := (h3 a ha.1 ha.2).2
    have hb' := (h3 b hb.1 hb.2).2
    unfold A_xch
    by_cases e : j = b
    · subst e; rw [if_pos rfl]; exact ⟨P_u2_at, ha'⟩
    · rw [if_neg e, P_u2_ne (by omega)]
      by_cases e2 : j = a
      · subst e2; rw [if_pos rfl]; exact ⟨P_u2_at, hb'⟩
      · rw [if_neg e2, P_u2_ne (by omega)]; exact h3 j j0 j1
  · have hp := h4 s s0 s1
    unfold A_xch
    rcases (by omega : a = 0 ∨ a = 1 ∨ a = 2) with rfl | rfl | rfl <;> rcases (by omega : b = 0 ∨ b = 1 ∨ b = 2) with rfl | rfl | rfl <;> simp <;> omega
theorem G_fr_2 {g : P_Gl} {τ : P_A} {G : Nat} {v : Int} {sh : P_Sg} (hG : g G = some (1, sh)) : G_fr G_R G_F2 g τ g (P_u2 τ G 2 v) := G_fr_f hG (Or.inl rfl)