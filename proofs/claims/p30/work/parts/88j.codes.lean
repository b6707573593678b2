/-! the law's own methods, written by wip/g1.py: 88j.codes -/
theorem G_ok_lows {nn : Nat} {sn : Int → Int} {cT : Int → Nat} {od : Int → Int} {cs : List A_cd} (hok : ∀ x ∈ cs, P_gok nn sn cT x) : ∀ x ∈ A_lows od cs, P_gok nn sn cT x := fun x hx => by
  obtain ⟨y, hy, rfl⟩ := List.mem_map.mp hx
  exact G_ok_lvl (hok y hy) A_low_rg