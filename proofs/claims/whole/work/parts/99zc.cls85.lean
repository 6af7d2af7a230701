/-! THE TREES GROW, AND STAY SOUND: second -/
theorem TV2.grow {K F C S K' F' C' S' : Nat → Int32} {nt : Nat} {ns : List Nd} (h : TV2 K F C S nt) (hx : ∀ j, j < nt → K' j = K j ∧ F' j = F j ∧ C' j = C j ∧ S' j = S j) (hn : NIN K' F' C' S' nt ns) (hv : NV ns) (hl : ns.length ≤ 250) (hb : nt ≤ 1000) : TV2 K' F' C' S' (nt + ns.length) := by
  intro j hj
  by_cases q : j < nt
  · obtain ⟨x1, x2, x3, x4⟩ := hx j q
    rw [x1, x2, x3, x4]; exact h j q
  · obtain ⟨i, rfl⟩ : ∃ i, j = nt + i := ⟨j - nt, by omega⟩
    have hi : i < ns.length := by omega
    obtain ⟨n1, n2, n3, n4, n5⟩ := hn i hi
    obtain ⟨v1, v2, v3, v5, v6⟩ := hv.nd hi
    have hk : (K' (nt + i)).toInt = ((nd ns i).1 : Int) := by rw [n1]; exact nI_toInt (by omega)
    rw [hk]
    refine ⟨fun z => ?_, fun z => ?_⟩
    · have z2 : (nd ns i).1 = 6 := by omega
      have := v6 z2
      rw [(n4 (Or.inr z2)).2, nI_toInt (by omega)]; omega
    · have z2 : (nd ns i).1 = 5 := by omega
      have := v5 z2
      rw [(n4 (Or.inl z2)).1, (n4 (Or.inl z2)).2, n5 z2, nI_toInt (by omega), nI_toInt (by omega), nI_toInt (by omega)]; omega
