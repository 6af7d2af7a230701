/-! THE READER: what the machine keeps -/
/-- what readCondition leaves -/
def RdC (T : Nat → Int32) (n : Nat) (r : Option (List Nd) × Nat) (x : Option Value) (K : Nat → Nat → Int32) : Prop := match r with
  | (none, q) => x = some (.int (nI 0)) ∧ q ≤ n ∧ ∃ due ob ns W Lo, RS T n q due ob ns W Lo K
  | (some m, q) => x = some (.int (nI 1)) ∧ q < n ∧ (byt T n q = 58 ∨ byt T n q = 37) ∧ m.length ≤ q ∧ ∃ W Lo, RS T n q false 0 m W Lo K
/-- what the machine keeps from turn to turn -/
def MV (q : Nat) (due : Bool) (ns : List Nd) (W Lo : List Nat) : Prop := okW W ∧ (due = false → W.headD 0 ≠ 33 ∧ 1 ≤ ns.length) ∧ Lo.length = bns W + (if due = true then 0 else 1) ∧ ns.length + nob W ≤ q ∧ W.length ≤ q
theorem MV.pu {q s : Nat} {ns : List Nd} {W Lo : List Nat} (hs : s = 33 ∨ s = 40) (h : MV q true ns W Lo) : MV (q + 1) true ns (s :: W) Lo := by
  obtain ⟨h1, -, h3, h4, h5⟩ := h
  rw [if_pos rfl] at h3
  refine ⟨⟨by omega, fun z => by omega, h1⟩, fun z => by (cases z), ?_, ?_, by rw [List.length_cons]; omega⟩
  · rw [if_pos rfl, bns_c, if_neg (by omega)]; omega
  · rw [nob_c]; by_cases z : s = 40 <;> (first | rw [if_pos z] | rw [if_neg z]) <;> omega
theorem MV.bi {q s : Nat} {ns : List Nd} {W Lo : List Nat} {r : List Nd × List Nat × List Nat} (hs : s = 38 ∨ s = 124) (h : MV q false ns W Lo) (hj : JK ns W Lo r) : MV (q + 1) true r.1 (s :: r.2.1) r.2.2 := by
  obtain ⟨j1, j2, j3, j4, j5, j6⟩ := hj
  obtain ⟨h1, h2, h3, h4, h5⟩ := h
  refine ⟨⟨by omega, fun _ => j2, j1⟩, fun z => by (cases z), ?_, ?_, by rw [List.length_cons]; omega⟩
  · rw [if_pos rfl, bns_c, if_pos (by omega), j3]; omega
  · rw [nob_c, if_neg (by omega)]; omega
theorem okW_40 {W : List Nat} (h : okW W) (h2 : W.headD 0 ≠ 33) (h3 : W.headD 0 ≠ 38 ∧ W.headD 0 ≠ 124) (h4 : opn W ≠ 0) : 0 < W.length ∧ W.headD 0 = 40 := by
  cases W with
  | nil => exact absurd rfl h4
  | cons s W =>
    obtain ⟨g, -, -⟩ := h
    have a1 : s ≠ 33 := h2
    have a2 : s ≠ 38 := h3.1
    have a3 : s ≠ 124 := h3.2
    exact ⟨by simp, by show s = 40; omega⟩
theorem jn_len {ns : List Nd} {W Lo : List Nat} {e : Bool} (h1 : okW W) (h2 : W.headD 0 ≠ 33) (h3 : Lo.length = bns W + 1) (h4 : 1 ≤ ns.length) : 1 ≤ (jn ns W Lo e).1.length := by
  have hj := (jn_ok (e := e) (ns := ns) h1 h2 h3).1
  obtain ⟨k1, k2, k3, k4, k5, k6⟩ := hj
  have hm : ∀ {W : List Nat} {ns : List Nd} {Lo : List Nat}, okW W → W.headD 0 ≠ 33 → Lo.length = bns W + 1 → nob (jn ns W Lo e).2.1 ≤ nob W := by
    intro W
    induction W with
    | nil => intro ns Lo _ _ _; exact Nat.le_refl _
    | cons s W ih =>
      intro ns Lo h1 h2 h3
      by_cases q : s = 38 ∨ (e = true ∧ s = 124)
      · have q2 : s = 38 ∨ s = 124 := by rcases q with q | q
                                         · exact Or.inl q
                                         · exact Or.inr q.2
        rw [bns_c, if_pos q2] at h3
        rw [jn_st (W := s :: W) (by simp) q (by omega)]
        have := ih (ns := ns ++ [(if (s :: W).headD 0 = 38 then 7 else 8, Lo.tail.headD 0, Lo.headD 0, 0)]) (Lo := ns.length :: Lo.tail.tail) h1.2.2 (h1.2.1 q2) (by rw [List.length_cons, List.length_tail, List.length_tail]; omega)
        rw [nob_c]
        exact Nat.le_trans this (by omega)
      · rw [show jn ns (s :: W) Lo e = (ns, s :: W, Lo) from jn_0 (fun z => q (Or.inl z)) (fun he z => q (Or.inr ⟨he, z⟩))]
        exact Nat.le_refl _
  have := hm (ns := ns) h1 h2 h3
  omega
theorem ng_len {ns : List Nd} {W Lo : List Nat} (h1 : okW W) (h3 : Lo.length = bns W + 1) (h4 : 1 ≤ ns.length) : 1 ≤ (ng ns W Lo).1.length := by
  have hm : ∀ {W : List Nat} {ns : List Nd} {Lo : List Nat}, okW W → Lo.length = bns W + 1 → nob (ng ns W Lo).2.1 ≤ nob W := by
    intro W
    induction W with
    | nil => intro ns Lo _ _; exact Nat.le_refl _
    | cons s W ih =>
      intro ns Lo h1 h3
      by_cases q : s = 33
      · rw [bns_c, if_neg (by omega)] at h3
        rw [show ng ns (s :: W) Lo = ng (ns ++ [(3, Lo.headD 0, 0, 0)]) W (ns.length :: Lo.tail) from ng_st (W := s :: W) (by simp) q (by omega)]
        have := ih (ns := ns ++ [(3, Lo.headD 0, 0, 0)]) (Lo := ns.length :: Lo.tail) h1.2.2 (by rw [List.length_cons, List.length_tail]; omega)
        rw [nob_c]
        exact Nat.le_trans this (by omega)
      · rw [ng_0 (W := s :: W) q]
        exact Nat.le_refl _
  obtain ⟨k1, k2, k3, k4, k5, k6⟩ := ng_ok (ns := ns) h1 h3
  have := hm (ns := ns) h1 h3
  omega
theorem MV.ng {q : Nat} {ns : List Nd} {W Lo : List Nat} (h1 : okW W) (h3 : Lo.length = bns W + 1) (h4 : ns.length + nob W ≤ q) (h5 : W.length ≤ q) (h6 : 1 ≤ ns.length) : MV q false (ng ns W Lo).1 (ng ns W Lo).2.1 (ng ns W Lo).2.2 := by
  have hl := ng_len (ns := ns) h1 h3 h6
  obtain ⟨k1, k2, k3, k4, k5, k6⟩ := ng_ok (ns := ns) h1 h3
  exact ⟨k1, fun _ => ⟨k2, hl⟩, by rw [if_neg (by decide)]; exact k3, by omega, by omega⟩
