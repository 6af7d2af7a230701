/-! THE ROW G STAYS SOUND, third: drop, needs, override -/
theorem nR_of {G : Nat → Int32} {nF nt F : Nat} (h : WFF G nF nt F) : ∃ nR : Nat, (G (174 + 84 * F + 4)).toInt = (nR : Int) ∧ nR ≤ 6 := by
  obtain ⟨-, -, -, -, w4, -⟩ := h
  exact ⟨(G (174 + 84 * F + 4)).toInt.toNat, by omega, by omega⟩
theorem nN_of {G : Nat → Int32} {nF nt F : Nat} (h : WFF G nF nt F) : ∃ nN : Nat, (G (174 + 84 * F + 5)).toInt = (nN : Int) ∧ nN ≤ 3 := by
  obtain ⟨-, -, -, -, -, w4, -⟩ := h
  exact ⟨(G (174 + 84 * F + 5)).toInt.toNat, by omega, by omega⟩
theorem nO_of {G : Nat → Int32} {nF nt F : Nat} (h : WFF G nF nt F) : ∃ nO : Nat, (G (174 + 84 * F + 6)).toInt = (nO : Int) ∧ nO ≤ 8 := by
  obtain ⟨-, -, -, -, -, -, w4, -⟩ := h
  exact ⟨(G (174 + 84 * F + 6)).toInt.toNat, by omega, by omega⟩
theorem WG.drop1 {G : Nat → Int32} {nt nP nF nS F r nR : Nat} (h : WG G nt nP nF nS) (hF : F < nF) (b4 : (G (174 + 84 * F + 4)).toInt = (nR : Int)) (c4 : nR ≤ 6) (hr : r < nR) : WG (g_drop1 G F r) nt nP nF nS := by
  have hw := h.ff hF
  have hP24 := h.1.2.1
  have e4 : g_drop1 G F r (174 + 84 * F + 4) = nI (nR - 1) := by unfold g_drop1; rw [u1_i, b4, Int.toNat_natCast]
  have ho : ∀ j, j ≠ 174 + 84 * F + 4 → (j < 174 + 84 * F + 60 ∨ 174 + 84 * F + 84 ≤ j) → g_drop1 G F r j = G j := fun j h1 h2 => by
    unfold g_drop1; rw [u1_o h1, b4, Int.toNat_natCast, shf_o (by omega)]
  have ix : ∀ q k, q < nR - 1 → k < 4 → g_drop1 G F r (174 + 84 * F + 60 + 4 * q + k) = G (174 + 84 * F + 60 + 4 * (if r ≤ q then q + 1 else q) + k) := fun q k hq hk => by
    unfold g_drop1
    rw [u1_o (by omega), b4, Int.toNat_natCast]
    by_cases z : r ≤ q
    · rw [if_pos z]; unfold shf; rw [if_pos (by omega)]; congr 1; omega
    · rw [if_neg z, shf_o (by omega)]
  obtain ⟨-, -, -, -, -, w5, w6, -, -, -, -, wR, -, -⟩ := id hw
  refine h.one hF (fun j hj => ho j (by omega) (by omega)) (hw.put (fun w hw => ho _ (by omega) (by omega)) (by rw [e4, nI_toInt (by omega)]; omega) (by rw [ho _ (by omega) (by omega)]; exact w5) (by rw [ho _ (by omega) (by omega)]; exact w6) (hw.qn (fun w hw => ho _ (by omega) (by omega))) (fun q hq => ?_) (hw.qo (fun w hw => ho _ (by omega) (by omega)))) (fun w hw => ho _ (by omega) (by omega))
  rw [e4, nI_toInt (by omega)] at hq
  show QR1 (g_drop1 G F r) nt F q
  unfold QR1
  rw [ix q 0 (by omega) (by omega), ix q 1 (by omega) (by omega), ix q 2 (by omega) (by omega), ix q 3 (by omega) (by omega)]
  exact wR (if r ≤ q then q + 1 else q) (by split <;> omega)
theorem w_drop {G : Nat → Int32} {nt nP nF nS : Nat} {f s : Int32} (h : WG G nt nP nF nS) : WG (g_drop G nF f s) nt nP nF nS := by
  unfold g_drop
  split
  · rename_i c
    split
    · rename_i d
      have hF : f.toInt.toNat < nF := by omega
      obtain ⟨nR, b4, c4⟩ := nR_of (h.ff hF)
      exact h.drop1 hF b4 c4 (by omega)
    · exact h
  · exact h
theorem n_drop {G : Nat → Int32} {nF : Nat} {f s : Int32} {j : Nat} (e : o_drop G nF f s = .inr j) : g_drop G nF f s = G := by
  unfold g_drop
  split
  · rename_i c
    split
    · rename_i d
      unfold o_drop at e; rw [if_pos c, if_pos d] at e; cases e
    · rfl
  · rfl
theorem WG.needs1 {G : Nat → Int32} {nt nP nF nS F X nN : Nat} {x v : Int32} (h : WG G nt nP nF nS) (hF : F < nF) (hX : X < nF) (ex : x.toInt = (X : Int)) (hv : 0 ≤ v.toInt ∧ v.toInt ≤ 3) (b5 : (G (174 + 84 * F + 5)).toInt = (nN : Int)) (c5 : nN < 3) (hne : F ≠ X) (hnr : ¬ RC G X F) : WG (g_needs1 G F x v) nt nP nF nS := by
  have hw := h.ff hF
  obtain ⟨hA, hT, hK, rk, hr⟩ := h
  have hP24 := hA.2.1
  have hF12 := hA.2.2.2.1
  have hG3 := hK.2.2.2
  have e5 : g_needs1 G F x v (174 + 84 * F + 5) = nI (nN + 1) := by unfold g_needs1; rw [u1_i, b5, Int.toNat_natCast]
  have ea : g_needs1 G F x v (174 + 84 * F + (14 + 2 * nN)) = x := by unfold g_needs1; rw [b5, Int.toNat_natCast, u1_o (by omega), u1_o (by omega), u1_i]
  have eb : g_needs1 G F x v (174 + 84 * F + (14 + 2 * nN + 1)) = v := by unfold g_needs1; rw [b5, Int.toNat_natCast, u1_o (by omega), u1_i]
  have ho : ∀ j, j ≠ 174 + 84 * F + 5 → j ≠ 174 + 84 * F + (14 + 2 * nN) → j ≠ 174 + 84 * F + (14 + 2 * nN + 1) → g_needs1 G F x v j = G j := fun j h1 h2 h3 => by unfold g_needs1; rw [b5, Int.toNat_natCast, u1_o h1, u1_o h3, u1_o h2]
  obtain ⟨-, -, -, -, w4, -, w6, -, -, -, wN, -, -, -⟩ := id hw
  have hw2 : WFF (g_needs1 G F x v) nF nt F := by
    refine hw.put (fun w hw => ho _ (by omega) (by omega) (by omega)) (by rw [ho _ (by omega) (by omega) (by omega)]; exact w4) (by rw [e5, nI_toInt (by omega)]; omega) (by rw [ho _ (by omega) (by omega) (by omega)]; exact w6) (fun n hn => ?_) (hw.qr (fun w hw => ho _ (by omega) (by omega) (by omega))) (hw.qo (fun w hw => ho _ (by omega) (by omega) (by omega)))
    rw [e5, nI_toInt (by omega)] at hn
    by_cases z : n = nN
    · subst z
      rw [ea, eb]; exact ⟨⟨by omega, by omega⟩, hv⟩
    · rw [ho _ (by omega) (by omega) (by omega), ho _ (by omega) (by omega) (by omega)]
      exact wN n (by omega)
  have hnd : ∀ E, E < nF → ∀ n, n < nNof (g_needs1 G F x v) E → (E = F ∧ n = nN ∧ ndF (g_needs1 G F x v) E n = X) ∨ (n < nNof G E ∧ ndF (g_needs1 G F x v) E n = ndF G E n) := fun E hE n hn => by
    by_cases q : E = F
    · subst q
      unfold nNof at hn; rw [e5, nI_toInt (by omega)] at hn
      by_cases z : n = nN
      · subst z
        exact Or.inl ⟨rfl, rfl, by unfold ndF; rw [ea, ex]; omega⟩
      · exact Or.inr ⟨by unfold nNof; rw [b5]; omega, by unfold ndF; rw [ho _ (by omega) (by omega) (by omega)]⟩
    · obtain ⟨nE, bE, cE⟩ := nN_of (hA.2.2.2.2.1 E hE)
      have en : nNof (g_needs1 G F x v) E = nNof G E := by unfold nNof; rw [ho _ (by omega) (by omega) (by omega)]
      rw [en] at hn
      have hn2 := hn
      unfold nNof at hn2
      exact Or.inr ⟨hn, by unfold ndF; rw [ho _ (by omega) (by omega) (by omega)]⟩
  refine ⟨WFA_one hA hF (fun j hj => ho j (by omega) (by omega) (by omega)) hw2, WFT_congr hT (fun j hj => ho j (by omega) (by omega) (by omega)), WFK_congr hA hK (fun p hp => ho _ (by omega) (by omega) (by omega)) (fun E hE w hw => ho _ (by omega) (by omega) (by omega)) (by rw [ho _ (by omega) (by omega) (by omega)]; exact hG3), RK_of hF12 (r := fun E => if E = F ∨ rchB G 12 E F = true then rk E + 13 else rk E) (fun E hE n hn => ?_)⟩
  rcases hnd E hE n hn with ⟨rfl, rfl, z⟩ | ⟨z1, z2⟩
  · rw [z]
    refine ⟨hX, ?_⟩
    have e1 : ¬ (X = E ∨ rchB G 12 X E = true) := fun q => q.elim (fun q => hne q.symm) hnr
    try dsimp only
    rw [if_neg e1, if_pos (Or.inl rfl)]
    have := (hr X hX).1
    omega
  · rw [z2]
    obtain ⟨r1, r2⟩ := hr E hE
    obtain ⟨r3, r4⟩ := r2 n z1
    refine ⟨r3, ?_⟩
    try dsimp only
    by_cases q : ndF G E n = F ∨ rchB G 12 (ndF G E n) F = true
    · have q2 : rchB G 12 E F = true := rch_fuel hr _ E rfl hE 13 12 F (by omega) r1 (rch_s.mpr ⟨n, z1, q⟩)
      rw [if_pos q, if_pos (Or.inr q2)]; omega
    · rw [if_neg q]; split <;> omega
theorem w_needs {G : Nat → Int32} {nt nP nF nS : Nat} {f x v : Int32} (h : WG G nt nP nF nS) : WG (g_needs G nF f x v) nt nP nF nS := by
  unfold g_needs
  split
  · rename_i c
    split
    · exact h
    · rename_i d
      split
      · exact h
      · rename_i d3
        obtain ⟨⟨f0, f1⟩, ⟨x0, x1⟩, v0, v1⟩ := c
        have hF : f.toInt.toNat < nF := by omega
        have hX : x.toInt.toNat < nF := by omega
        have hF12 := h.1.2.2.2.1
        obtain ⟨w0, -⟩ := h.ff hX
        obtain ⟨nN, b5, c5⟩ := nN_of (h.ff hF)
        have d1 : ¬ f.toInt = x.toInt := fun z => d (Or.inl z)
        refine h.needs1 hF hX (by omega) ⟨v0, by omega⟩ b5 (by omega) (by omega) (fun z => d (Or.inr ((bt_nds hF12 hF).mpr z)))
  · exact h
theorem n_needs {G : Nat → Int32} {nF : Nat} {f x v : Int32} {j : Nat} (e : o_needs G nF f x v = .inr j) : g_needs G nF f x v = G := by
  unfold g_needs
  split
  · rename_i c
    split
    · rfl
    · rename_i d
      split
      · rfl
      · rename_i d2
        unfold o_needs at e; rw [if_pos c, if_neg d, if_neg d2] at e; cases e
  · rfl
theorem WG.ov {G G' : Nat → Int32} {nt nP nF nS F : Nat} (h : WG G nt nP nF nS) (hF : F < nF) (e : ∀ j, j < 174 + 84 * F ∨ 174 + 84 * F + 84 ≤ j → G' j = G j) (hw : WFF G' nF nt F) (e5 : ∀ w, w = 5 ∨ (14 ≤ w ∧ w < 20) ∨ (36 + nP ≤ w ∧ w < 60) → G' (174 + 84 * F + w) = G (174 + 84 * F + w)) (hO : ∀ k, k < nOof G' F → (∃ p, p < nP ∧ G (6 + 2 * p) = G' (174 + 84 * F + (20 + 2 * k))) ∧ ∀ j, j < nOof G' F → G' (174 + 84 * F + (20 + 2 * j)) = G' (174 + 84 * F + (20 + 2 * k)) → j = k) : WG G' nt nP nF nS := by
  obtain ⟨hA, hT, hK, rk, hr⟩ := h
  have hP24 := hA.2.1
  have hF12 := hA.2.2.2.1
  have e6 : ∀ E, E < nF → ∀ w, w = 5 ∨ (14 ≤ w ∧ w < 20) ∨ (36 + nP ≤ w ∧ w < 60) → G' (174 + 84 * E + w) = G (174 + 84 * E + w) := fun E hE w hz => by
    by_cases q : E = F
    · subst q; exact e5 w hz
    · exact e _ (by omega)
  refine ⟨WFA_one hA hF e hw, WFT_congr hT (fun j hj => e j (by omega)), ⟨fun p q hp hq z => hK.1 p q hp hq (by rw [e _ (by omega), e _ (by omega)] at z; exact z), fun E hE k hk => ?_, fun E hE p h1 h2 => by rw [e6 E hE (36 + p) (by omega)]; exact hK.2.2.1 E hE p h1 h2, by rw [e 3 (by omega)]; exact hK.2.2.2⟩, rk, RK_congr hA (fun E hE w hw => e6 E hE w (by omega)) hr⟩
  by_cases q : E = F
  · subst q
    obtain ⟨⟨p, hp, z⟩, z2⟩ := hO k hk
    exact ⟨⟨p, hp, by rw [e _ (by omega)]; exact z⟩, z2⟩
  · have en : nOof G' E = nOof G E := by unfold nOof; rw [e _ (by omega)]
    obtain ⟨nE, bE, cE⟩ := nO_of (hA.2.2.2.2.1 E hE)
    have en2 : nOof G E = nE := by unfold nOof; rw [bE]; omega
    rw [en] at hk ⊢
    obtain ⟨⟨p, hp, z⟩, z2⟩ := hK.2.1 E hE k hk
    refine ⟨⟨p, hp, by rw [e _ (by omega), e _ (by omega)]; exact z⟩, fun j hj y => z2 j hj ?_⟩
    rw [e _ (by omega), e _ (by omega)] at y; exact y
theorem loses_at {G : Nat → Int32} {F k nO : Nat} (b6 : (G (174 + 84 * F + 6)).toInt = (nO : Int)) : (∀ j, j ≠ 174 + 84 * F + 6 → (j < 174 + 84 * F + 20 ∨ 174 + 84 * F + (20 + 2 * (nO - 1)) ≤ j) → g_loses G F k j = G j) ∧ g_loses G F k (174 + 84 * F + 6) = nI (nO - 1) ∧ ∀ j y, j < nO - 1 → y < 2 → g_loses G F k (174 + 84 * F + (20 + 2 * j + y)) = G (174 + 84 * F + (20 + 2 * (if k ≤ j then j + 1 else j) + y)) := by
  refine ⟨fun j h1 h2 => ?_, ?_, fun j y hj hy => ?_⟩
  · unfold g_loses; rw [u1_o h1, b6, Int.toNat_natCast, shf_o (by omega)]
  · unfold g_loses; rw [u1_i, b6, Int.toNat_natCast]
  · unfold g_loses
    rw [u1_o (by omega), b6, Int.toNat_natCast]
    by_cases z : k ≤ j
    · rw [if_pos z]; unfold shf; rw [if_pos (by omega)]; congr 1; omega
    · rw [if_neg z, shf_o (by omega)]
theorem WFF_loses {G : Nat → Int32} {nF nt F k nO : Nat} (hw : WFF G nF nt F) (b6 : (G (174 + 84 * F + 6)).toInt = (nO : Int)) (c6 : nO ≤ 8) (hk : k < nO) : WFF (g_loses G F k) nF nt F := by
  obtain ⟨ho, e6, ix⟩ := loses_at (k := k) b6
  obtain ⟨-, -, -, -, w4, w5, -, -, -, -, -, -, -, wO⟩ := id hw
  refine hw.put (fun w hw => ho _ (by omega) (by omega)) (by rw [ho _ (by omega) (by omega)]; exact w4) (by rw [ho _ (by omega) (by omega)]; exact w5) (by rw [e6, nI_toInt (by omega)]; omega) (hw.qn (fun w hw => ho _ (by omega) (by omega))) (hw.qr (fun w hw => ho _ (by omega) (by omega))) (fun j hj => ?_)
  rw [e6, nI_toInt (by omega)] at hj
  rw [ix j 1 (by omega) (by omega)]
  exact wO (if k ≤ j then j + 1 else j) (by split <;> omega)
theorem w_override {G : Nat → Int32} {nt nP nF nS : Nat} {f key v : Int32} (h : WG G nt nP nF nS) : WG (g_override G nP nF f key v) nt nP nF nS := by
  unfold g_override
  split
  · rename_i c
    obtain ⟨⟨f0, f1⟩, v0, v1⟩ := c
    have hF : f.toInt.toNat < nF := by omega
    have hw := h.ff hF
    obtain ⟨nO, b6, c6⟩ := nO_of hw
    obtain ⟨w0, -, -, -, w4, w5, -, -, -, -, -, -, -, wO⟩ := id hw
    have hP24 := h.1.2.1
    have hK := h.2.2.1.2.1 _ hF
    rw [b6, Int.toNat_natCast]
    rcases z : pB G nP key with _ | p
    · exact h
    · obtain ⟨hp, hpk, -⟩ := fst1_spec z
      have hpk := of_decide_eq_true hpk
      dsimp only
      have en0 : nOof G f.toInt.toNat = nO := by unfold nOof; rw [b6]; omega
      rw [en0] at hK
      generalize f.toInt.toNat = F at *
      rcases z2 : oB G F nO key with _ | k
      · have hno := fst1_not z2
        dsimp only
        split
        · exact h
        · split
          · exact h
          · rename_i d1 d2
            have ho : ∀ j, j ≠ 174 + 84 * F + 6 → j ≠ 174 + 84 * F + (20 + 2 * nO) → j ≠ 174 + 84 * F + (20 + 2 * nO + 1) → u1 (u1 (u1 G (174 + 84 * F + (20 + 2 * nO)) key) (174 + 84 * F + 6) (nI (nO + 1))) (174 + 84 * F + (20 + 2 * nO + 1)) v j = G j := fun j h1 h2 h3 => by rw [u1_o h3, u1_o h1, u1_o h2]
            have e6 : u1 (u1 (u1 G (174 + 84 * F + (20 + 2 * nO)) key) (174 + 84 * F + 6) (nI (nO + 1))) (174 + 84 * F + (20 + 2 * nO + 1)) v (174 + 84 * F + 6) = nI (nO + 1) := by rw [u1_o (by omega), u1_i]
            have ea : u1 (u1 (u1 G (174 + 84 * F + (20 + 2 * nO)) key) (174 + 84 * F + 6) (nI (nO + 1))) (174 + 84 * F + (20 + 2 * nO + 1)) v (174 + 84 * F + (20 + 2 * nO)) = key := by rw [u1_o (by omega), u1_o (by omega), u1_i]
            have eb : u1 (u1 (u1 G (174 + 84 * F + (20 + 2 * nO)) key) (174 + 84 * F + 6) (nI (nO + 1))) (174 + 84 * F + (20 + 2 * nO + 1)) v (174 + 84 * F + (20 + 2 * nO + 1)) = v := u1_i
            generalize u1 (u1 (u1 G (174 + 84 * F + (20 + 2 * nO)) key) (174 + 84 * F + 6) (nI (nO + 1))) (174 + 84 * F + (20 + 2 * nO + 1)) v = G' at ho e6 ea eb ⊢
            have n8 : nO < 8 := by omega
            have en : nOof G' F = nO + 1 := by unfold nOof; rw [e6, nI_toInt (by omega)]; omega
            refine h.ov hF (fun j hj => ho _ (by omega) (by omega) (by omega)) (hw.put (fun w hw => ho _ (by omega) (by omega) (by omega)) (by rw [ho _ (by omega) (by omega) (by omega)]; exact w4) (by rw [ho _ (by omega) (by omega) (by omega)]; exact w5) (by rw [e6, nI_toInt (by omega)]; omega) (hw.qn (fun w hw => ho _ (by omega) (by omega) (by omega))) (hw.qr (fun w hw => ho _ (by omega) (by omega) (by omega))) (fun j hj => ?_)) (fun w hw => ho _ (by omega) (by omega) (by omega)) (fun k hk => ?_)
            · rw [e6, nI_toInt (by omega)] at hj
              by_cases q : j = nO
              · subst q; rw [eb]; exact ⟨by omega, by omega⟩
              · rw [ho _ (by omega) (by omega) (by omega)]; exact wO j (by omega)
            · rw [en] at hk ⊢
              by_cases q : k = nO
              · subst q
                rw [ea]
                refine ⟨⟨p, hp, hpk⟩, fun j hj y => ?_⟩
                by_cases q2 : j = k
                · exact q2
                · rw [ho _ (by omega) (by omega) (by omega)] at y
                  exact absurd y (of_decide_eq_false (hno j (by omega)))
              · rw [ho _ (by omega) (by omega) (by omega)]
                obtain ⟨x1, x2⟩ := hK k (by omega)
                refine ⟨x1, fun j hj y => ?_⟩
                by_cases q2 : j = nO
                · subst q2
                  rw [ea] at y
                  exact absurd y.symm (of_decide_eq_false (hno k (by omega)))
                · rw [ho _ (by omega) (by omega) (by omega)] at y
                  exact x2 j (by omega) y
      · obtain ⟨hk, hkk, -⟩ := fst1_spec z2
        dsimp only
        split
        · obtain ⟨ho, e6, ix⟩ := loses_at (k := k) b6
          have en : nOof (g_loses G F k) F = nO - 1 := by unfold nOof; rw [e6, nI_toInt (by omega)]; omega
          refine h.ov hF (fun j hj => ho _ (by omega) (by omega)) (WFF_loses hw b6 c6 hk) (fun w hw => ho _ (by omega) (by omega)) (fun j hj => ?_)
          rw [en] at hj ⊢
          have i1 := ix j 0 hj (by omega)
          rw [Nat.add_zero, Nat.add_zero] at i1
          rw [i1]
          obtain ⟨x1, x2⟩ := hK (if k ≤ j then j + 1 else j) (by split <;> omega)
          refine ⟨x1, fun i hi y => ?_⟩
          have i2 := ix i 0 hi (by omega)
          rw [Nat.add_zero, Nat.add_zero] at i2
          rw [i2] at y
          have := x2 (if k ≤ i then i + 1 else i) (by split <;> omega) y
          split at this <;> split at this <;> omega
        · rename_i d
          have hv3 : 0 ≤ v.toInt ∧ v.toInt ≤ 3 := ⟨by omega, by omega⟩
          have ho : ∀ j, j ≠ 174 + 84 * F + (20 + 2 * k + 1) → u1 G (174 + 84 * F + (20 + 2 * k + 1)) v j = G j := fun j h1 => u1_o h1
          have en : nOof (u1 G (174 + 84 * F + (20 + 2 * k + 1)) v) F = nO := by unfold nOof; rw [ho _ (by omega), b6]; omega
          refine h.ov hF (fun j hj => ho _ (by omega)) (hw.put (fun w hw => ho _ (by omega)) (by rw [ho _ (by omega)]; exact w4) (by rw [ho _ (by omega)]; exact w5) (by rw [ho _ (by omega), b6]; omega) (hw.qn (fun w hw => ho _ (by omega))) (hw.qr (fun w hw => ho _ (by omega))) (fun j hj => ?_)) (fun w hw => ho _ (by omega)) (fun j hj => ?_)
          · rw [ho _ (by omega)] at hj
            by_cases q : j = k
            · subst q; rw [u1_i]; exact hv3
            · rw [ho _ (by omega)]; exact wO j (by omega)
          · rw [en] at hj ⊢
            rw [ho _ (by omega)]
            obtain ⟨x1, x2⟩ := hK j hj
            refine ⟨x1, fun i hi y => ?_⟩
            rw [ho _ (by omega)] at y
            exact x2 i hi y
  · exact h
theorem n_override {G : Nat → Int32} {nP nF : Nat} {f key v : Int32} {j : Nat} (e : o_override G nP nF f key v = .inr j) : g_override G nP nF f key v = G := by
  unfold g_override
  split
  · rename_i c
    unfold o_override at e; rw [if_pos c] at e
    rcases z : pB G nP key with _ | p
    · rfl
    · rw [z] at e
      dsimp only at e ⊢
      rcases z2 : oB G f.toInt.toNat (G (174 + 84 * f.toInt.toNat + 6)).toInt.toNat key with _ | k
      · rw [z2] at e
        dsimp only at e ⊢
        split
        · rfl
        · rename_i d
          split
          · rfl
          · rename_i d2
            rw [if_neg d, if_neg d2] at e; cases e
      · rw [z2] at e; cases e
  · rfl
