/-! RULE: all that one read well tells -/
theorem prt3_ok {T : Nat → Int32} {n h0 h1 h2 p q a b c : Nat} (hp : p ≤ n) (e0 : h0 ≤ 333) (e1 : h1 ≤ 333) (e2 : h2 ≤ 333) (h : prt3 T n h0 h1 h2 p = (some (a, b, c), q)) : a ≤ 333 ∧ b ≤ 333 ∧ c ≤ 333 := by
  unfold prt3 at h
  rcases g1 : nmb T n 3 p 0 h0 with _ | ⟨e, v⟩
  · rw [g1] at h; cases h
  · rw [g1] at h
    dsimp only at h
    have b1 := nmb_p hp g1
    by_cases c3 : byt T n e ≠ 44
    · rw [if_pos c3] at h; cases h
    · rw [if_neg c3] at h
      have hl2 := byt_lt (T := T) (n := n) (p := e) (by omega)
      rcases g2 : nmb T n 3 (e + 1) 0 h1 with _ | ⟨e2, v2⟩
      · rw [g2] at h; cases h
      · rw [g2] at h
        dsimp only at h
        have b2 := nmb_p (by omega) g2
        by_cases c4 : byt T n e2 ≠ 44
        · rw [if_pos c4] at h; cases h
        · rw [if_neg c4] at h
          have hl3 := byt_lt (T := T) (n := n) (p := e2) (by omega)
          rcases g3 : nmb T n 3 (e2 + 1) 0 h2 with _ | ⟨e3, v3⟩
          · rw [g3] at h; cases h
          · rw [g3] at h
            have b3 := nmb_p (by omega) g3
            cases h
            omega
theorem anS_ok {T : Nat → Int32} {n top p q : Nat} {a : Nat ⊕ (Nat × Nat × Nat)} (ht : top ≤ 3) (h : anS T n top p = (some a, q)) : aOK a := by
  have hh : ∀ i, hiT top i ≤ 333 := fun i => by unfold hiT; by_cases z : i < top <;> (first | rw [if_pos z] | rw [if_neg z]) <;> omega
  unfold anS at h
  by_cases c : byt T n p = 58
  · have hl := byt_lt (T := T) (n := n) (p := p) (by omega)
    rw [if_pos c] at h
    unfold fxA at h
    rcases ho : nmb T n 1 (p + 1) 0 top with _ | ⟨e, v⟩
    · rw [ho] at h; cases h
    · rw [ho] at h
      have := nmb_p (by omega) ho
      cases h
      show v ≤ 3
      omega
  · rw [if_neg c] at h
    by_cases c2 : byt T n p = 37
    · have hl := byt_lt (T := T) (n := n) (p := p) (by omega)
      rw [if_pos c2] at h
      unfold pxA at h
      rcases ho : prt3 T n (hiT top 0) (hiT top 1) (hiT top 2) (p + 1) with ⟨_ | ⟨a1, b1, c1⟩, q1⟩
      · rw [ho] at h; cases h
      · rw [ho] at h
        have := prt3_ok (by omega) (hh 0) (hh 1) (hh 2) ho
        cases h
        exact this
    · rw [if_neg c2] at h; cases h
/-- all that a rule read well tells -/
theorem rdR_ok {T : Nat → Int32} {n top q : Nat} {ns : List Nd} {a : Nat ⊕ (Nat × Nat × Nat)} (hn : n ≤ 250) (ht : top ≤ 3) (h : rdR T n top = (some (ns, a), q)) : NV ns ∧ 0 < ns.length ∧ ns.length < 250 ∧ PF ns 0 (ns.length - 1) ∧ ln ns (ns.length - 1) ≤ 250 ∧ aOK a := by
  unfold rdR at h
  have hk := rdC_M (T := T) (n := n)
  rcases hc : rdC T n with ⟨_ | t, q1, m⟩
  · rw [hc] at h; cases h
  · rw [hc] at h hk
    obtain ⟨-, k1, k2, k3, k4, k5, k6⟩ := hk
    dsimp only at h k1 k2 k3 k4 k5
    rcases ha : anS T n top q1 with ⟨_ | a1, q2⟩
    · rw [ha] at h; cases h
    · rw [ha] at h
      dsimp only at h
      by_cases e : q2 = n
      · rw [if_pos e] at h
        have h1 := rdC_last hc
        obtain ⟨h2, h3⟩ := rdC_l hc
        have h4 := anS_ok ht ha
        have h5 : q1 < n := by
          rcases Nat.lt_or_ge q1 n with z | z
          · exact z
          · have hb : byt T n q1 = -1 := by unfold byt; rw [if_neg (by omega)]
            unfold anS at ha
            rw [if_neg (by omega), if_neg (by omega)] at ha
            cases ha
        cases h
        refine ⟨k3, by omega, by omega, ?_, ?_, h4⟩
        · rw [show ns.length - 1 = t by omega]; exact h2
        · rw [show ns.length - 1 = t by omega]; omega
      · rw [if_neg e] at h; cases h
