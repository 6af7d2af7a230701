/-! THE CLASS: a person leaves: the row g -/
theorem g_loses_c {G G' : Nat → Int32} {F k w : Nat} (h : ∀ w, w < 84 → G' (174 + 84 * F + w) = G (174 + 84 * F + w)) (h6 : nOof G F ≤ 8) (hw : w < 84) : g_loses G' F k (174 + 84 * F + w) = g_loses G F k (174 + 84 * F + w) := by
  have e6 := h 6 (by decide)
  unfold nOof at h6
  unfold g_loses
  rw [e6]
  by_cases q : w = 6
  · subst q; rw [u1_i, u1_i]
  · rw [u1_o (by omega), u1_o (by omega)]
    unfold shf
    by_cases z : 174 + 84 * F + (20 + 2 * k) ≤ 174 + 84 * F + w ∧ 174 + 84 * F + w < 174 + 84 * F + (20 + 2 * ((G (174 + 84 * F + 6)).toInt.toNat - 1))
    · rw [if_pos z, if_pos z, show 174 + 84 * F + w + 2 = 174 + 84 * F + (w + 2) by omega]; exact h _ (by omega)
    · rw [if_neg z, if_neg z]; exact h w hw
/-- the overrides of a feature when a person is gone -/
def gone0 (G : Nat → Int32) (key : Int32) (F : Nat) : Nat → Int32 := match oB G F (G (174 + 84 * F + 6)).toInt.toNat key with | some k => g_loses G F k | none => G
theorem gone0_c {G G' : Nat → Int32} {key : Int32} {F w : Nat} (h : ∀ w, w < 84 → G' (174 + 84 * F + w) = G (174 + 84 * F + w)) (h6 : nOof G F ≤ 8) (hw : w < 84) : gone0 G' key F (174 + 84 * F + w) = gone0 G key F (174 + 84 * F + w) := by
  have h6' := h6
  unfold nOof at h6'
  unfold gone0
  rw [h 6 (by decide), oB_c (G := G) (G' := G') (fun k hk => h (20 + 2 * k) (by omega))]
  cases oB G F (G (174 + 84 * F + 6)).toInt.toNat key with
  | some k => exact g_loses_c h h6 hw
  | none => exact h w hw
theorem gone1_e {G : Nat → Int32} {key : Int32} {p n F : Nat} : gone1 G key p n F = u1 (shf (gone0 G key F) (174 + 84 * F + (36 + p)) (174 + 84 * F + (36 + n)) 1) (174 + 84 * F + (36 + n)) (nI 0) := rfl
theorem gone1_c {G G' : Nat → Int32} {key : Int32} {p n F w : Nat} (hn : n < 24) (h : ∀ w, w < 84 → G' (174 + 84 * F + w) = G (174 + 84 * F + w)) (h6 : nOof G F ≤ 8) (hw : w < 84) : gone1 G' key p n F (174 + 84 * F + w) = gone1 G key p n F (174 + 84 * F + w) := by
  rw [gone1_e, gone1_e]
  by_cases q : w = 36 + n
  · subst q; rw [u1_i, u1_i]
  · rw [u1_o (by omega), u1_o (by omega)]
    unfold shf
    by_cases z : 174 + 84 * F + (36 + p) ≤ 174 + 84 * F + w ∧ 174 + 84 * F + w < 174 + 84 * F + (36 + n)
    · rw [if_pos z, if_pos z, show 174 + 84 * F + w + 1 = 174 + 84 * F + (w + 1) by omega]; exact gone0_c h h6 (by omega)
    · rw [if_neg z, if_neg z]; exact gone0_c h h6 hw
/-- what a feature's cells are behind, and all other cells stay -/
theorem goneF_at {G : Nat → Int32} {key : Int32} {p n : Nat} (hn : n < 24) : ∀ {m : Nat}, (∀ E, E < m → nOof G E ≤ 8) → (∀ E w, w < 84 → goneF G key p n m (174 + 84 * E + w) = if E < m then gone1 G key p n E (174 + 84 * E + w) else G (174 + 84 * E + w)) ∧ ∀ j, j < 174 → goneF G key p n m j = G j
  | 0, _ => ⟨fun E w hw => by rw [if_neg (by omega)]; rfl, fun j hj => rfl⟩
  | m + 1, h6 => by
    obtain ⟨i1, i2⟩ := goneF_at (G := G) (key := key) (p := p) hn (m := m) (fun E hE => h6 E (by omega))
    have hm : ∀ w, w < 84 → goneF G key p n m (174 + 84 * m + w) = G (174 + 84 * m + w) := fun w hw => by rw [i1 m w hw, if_neg (by omega)]
    have h8 := h6 m (by omega)
    have h8' : ((goneF G key p n m) (174 + 84 * m + 6)).toInt.toNat ≤ 8 := by rw [hm 6 (by decide)]; exact h8
    refine ⟨fun E w hw => ?_, fun j hj => ?_⟩
    · show gone1 (goneF G key p n m) key p n m (174 + 84 * E + w) = _
      by_cases q : E = m
      · subst q
        rw [if_pos (by omega), gone1_c hn hm h8 hw]
      · rw [gone1_o hn (by omega) h8', i1 E w hw]
        by_cases z : E < m
        · rw [if_pos z, if_pos (by omega)]
        · rw [if_neg z, if_neg (by omega)]
    · show gone1 (goneF G key p n m) key p n m j = _
      rw [gone1_o hn (by omega) h8', i2 j hj]
