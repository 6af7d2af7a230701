/-! THE TREES GROW, AND STAY SOUND -/
/-- the trees stay sound where sound nodes are put behind -/
theorem TV.grow {K F C S K' F' C' S' : Nat → Int32} {nt : Nat} {ns : List Nd} (h : TV K F C nt) (hx : ∀ j, j < nt → K' j = K j ∧ F' j = F j ∧ C' j = C j ∧ S' j = S j) (hn : NIN K' F' C' S' nt ns) (hv : NV ns) (hl : ns.length ≤ 250) (hb : nt ≤ 1000) (h4 : ∀ j, j < ns.length → (nd ns j).1 = 4 → 0 ≤ (F' (nt + j)).toInt ∧ (F' (nt + j)).toInt ≤ 999999) : TV K' F' C' (nt + ns.length) := by
  intro j hj
  by_cases q : j < nt
  · obtain ⟨x1, x2, x3, -⟩ := hx j q
    rw [x1, x2, x3]; exact h j q
  · obtain ⟨i, rfl⟩ : ∃ i, j = nt + i := ⟨j - nt, by omega⟩
    have hi : i < ns.length := by omega
    obtain ⟨n1, n2, n3, n4, n5⟩ := hn i hi
    obtain ⟨v1, v2, v3, v5, v6⟩ := hv.nd hi
    have hk : (K' (nt + i)).toInt = ((nd ns i).1 : Int) := by rw [n1]; exact nI_toInt (by omega)
    rw [hk]
    have f37 : ((nd ns i).1 = 3 ∨ 7 ≤ (nd ns i).1) → (F' (nt + i)).toInt = ((nt + (nd ns i).2.1 : Nat) : Int) ∧ (nd ns i).2.1 < i := fun z => ⟨by rw [n2 z]; exact nI_toInt (by have := v2 z; omega), v2 z⟩
    have c7 : 7 ≤ (nd ns i).1 → (C' (nt + i)).toInt = ((nt + (nd ns i).2.2.1 : Nat) : Int) ∧ (nd ns i).2.2.1 < i := fun z => ⟨by rw [n3 z]; exact nI_toInt (by have := v3 z; omega), v3 z⟩
    refine ⟨by omega, ?_, fun z => ?_, fun z => ?_⟩
    · rcases (show ((nd ns i).1 = 3 ∨ 7 ≤ (nd ns i).1) ∨ (nd ns i).1 = 4 ∨ (nd ns i).1 = 5 ∨ (nd ns i).1 = 6 by omega) with z | z | z | z
      · have := f37 z; omega
      · exact h4 i hi z
      · have := v5 z
        rw [(n4 (Or.inl z)).1, nI_toInt (by omega)]; omega
      · have := v6 z
        rw [(n4 (Or.inr z)).1, nI_toInt (by omega)]; omega
    · have := f37 (by omega); omega
    · have := c7 (by omega); omega
