/-! THE LAW'S CALLS: shelves -/
theorem s_row {n tp nt nk nP nF nS kA fA cA gA : Nat} {I : Nat → Nat → Int32} {R : Nat → Nat → Option Nat} {L : Nat → Nat → Int64} {sh : Nat → Nat × Nat} {N : Nat} (h : IVC n tp nt nk nP nF nS kA fA cA gA I R L sh N) (hr : RFS I) (hn : n ≤ 512) {x1 : Int32} {x2 : Int32} {x3 : Int32} : SY mi_X_row mi_M_row n (I, R, L, sh, N) [.ref 0, .int x1, .int x2, .int x3] [.ref 761, .int x1, .int x2, .int x3] := by
  obtain ⟨hS, hR, hN, h7⟩ := h.1
  obtain ⟨⟨hT, hTn⟩, hTd, ⟨hV, hV2⟩, ⟨hk1, hk2, hk3⟩, h9⟩ := h.2.1
  obtain ⟨⟨t1, t2, t3, t4⟩, tn⟩ := h.2.2.1
  obtain ⟨⟨hW, hWT, hKW, rk, hrk⟩, hD, hB⟩ := h.2.2.2.1
  obtain ⟨hH, hWS⟩ := h.2.2.2.2.2.1
  have cX : Mt mi_X_row 1100 0 0 [.ref 0, .int x1, .int x2, .int x3] (I, R, L, sh, N) _ := c_X_row (tS := I gA) hS hR hV (by omega)
  have cM : ∀ K R' L', RPC n tp nt nk nP nF nS kA fA cA gA K R' sh N → EQS kA fA cA gA I K → Mt mi_M_row 1100 0 0 [.ref 761, .int x1, .int x2, .int x3] (K, R', L', sh, N) (RQZ K R' L' sh N (o_row x1 x2 x3) (u2 (u2 K 777 x1.toInt.toNat x2) 778 x1.toInt.toNat x3) (filL L' 779 (40 * x1.toInt.toNat) 40)) := fun K R' L' hp he => by
    obtain ⟨⟨hS', hR', hN', h7'⟩, ⟨⟨hT', hTn'⟩, -, ⟨hV', hV2'⟩, -, -⟩, ⟨h11, -, -⟩, ⟨hW', hWT', hKW', rk', hrk'⟩, hWS'⟩ := hp
    obtain ⟨e2, ⟨eK, eF, eC, eG⟩, ⟨e7, e8, e0⟩, ⟨e11, e3⟩, e4, e5⟩ := he
    have q : Mt mi_M_row 1100 0 0 [.ref 761, .int x1, .int x2, .int x3] (K, R', L', sh, N) _ := c_M_row hS' hR' hT' hTn' hV' hk1 (by omega) hW' hrk' hWS' (by omega)
    exact q
  rcases hx : o_row x1 x2 x3 with v | k
  · rw [hx] at cX
    have c : (0 ≤ x1.toInt ∧ x1.toInt ≤ 7) ∧ (0 ≤ x2.toInt ∧ x2.toInt ≤ 4) ∧ 0 ≤ x3.toInt ∧ x3.toInt ≤ 40 := by
      unfold o_row at hx
      split at hx
      · assumption
      · cases hx
    have hs : x1.toInt.toNat < 8 := by omega
    generalize x1.toInt.toNat = s at *
    refine ⟨0, 0, by omega, by omega, cX.imp (fun r h1 hq => ?_)⟩
    obtain ⟨K, R', L', rfl, rfl, hF, hq1⟩ := hq
    have hM := hF.m (sh := sh) hs
    have he := h.eqm hM
    refine ⟨0, 0, by omega, by omega, ⟨⟨_, rfl⟩, sh_761 hS⟩, (cM K R' L' (h.rpm hM (hF.2.1.2 hR) (fun j => hF.2.1.1 761 j (by omega))) he).imp (fun r2 h2 hq2 => ?_)⟩
    rw [hx] at hq2
    obtain ⟨K2, rfl, rfl, hf2⟩ := hq2
    obtain ⟨e2, ⟨eK, eF, eC, eG⟩, ⟨e7, e8, e0⟩, ⟨e11, e3⟩, e4, e5⟩ := id he
    have hf2 : FrS (u2 (u2 K 777 s x2) 778 s x3) K2 := hf2
    have eo : ∀ a j, ¬ scr a j → a ≠ 777 → a ≠ 778 → a ≠ 780 → K2 a j = K a j := fun a j q1 q2 q3 q4 => (hf2 a j q1).trans ((rd_ne rfl q3).trans (rd_ne rfl q2))
    have r7 : ∀ t, t ≠ s → K2 777 t = I 777 t ∧ K2 778 t = I 778 t ∧ K2 780 t = I 780 t := fun t ht => ⟨by rw [← e7]; exact (hf2.m (by omega) t).trans ((rd_ne rfl (by omega)).trans (rd_nk rfl ht)), by rw [← e8]; exact (hf2.m (by omega) t).trans ((rd_nk rfl ht).trans (rd_ne rfl (by omega))), by rw [← e0]; exact (hf2.m (by omega) t).trans ((rd_ne rfl (by omega)).trans (rd_ne rfl (by omega)))⟩
    have v7 : K2 777 s = x2 := (hf2.m (by omega) s).trans ((rd_ne rfl (by omega)).trans (rd_eq rfl))
    have v8 : K2 778 s = x3 := (hf2.m (by omega) s).trans (rd_eq rfl)
    have hl1 : ∀ a j, a ≠ 779 → filL L' 779 (40 * s) 40 a j = L' a j := fun a j q => by unfold filL; rw [if_neg (fun z => q z.1)]
    refine ⟨rfl, K2, R', _, sh, N, tp, nt, nk, nP, nF, nS, kA, fA, cA, gA, rfl, h.shelf hs hF eo r7 (fun a j q1 q2 => hl1 a j (by omega)) (fun j q1 => ?_) ?_ ?_, hr.keep (fun j => (eo 744 j (fun z => by unfold scr at z; omega) (by omega) (by omega) (by omega)).trans (hF.1 744 j (by omega))) (fun j => (eo 765 j (fun z => by unfold scr at z; omega) (by omega) (by omega) (by omega)).trans (hF.1 765 j (by omega)))⟩
    · show filL L' 779 (40 * s) 40 779 j = _
      unfold filL
      rw [if_neg (fun z => q1 z.2)]
      exact hF.2.2 779 j (by omega)
    · rw [v7, v8]
      exact hq1 _ _ (fun j hj => by show filL L' 779 (40 * s) 40 779 _ = 0; unfold filL; rw [if_pos (by omega)])
    · rw [v8]; exact ⟨x3.toInt.toNat, eq_nI (by omega), by omega⟩
  · rw [hx] at cX
    exact SY.bad h hr (cX.imp (fun r h1 hq => by
      obtain ⟨K, R', L', q1, q2, q3, q4, q5⟩ := hq
      subst q3; subst q4
      exact ⟨K, R', q1, q2, FrXR.rf, q5⟩)) (fun K R' hp he => (cM K R' L hp he).imp (fun r2 h2 hq2 => by
      rw [hx] at hq2; exact hq2))
theorem s_set {n tp nt nk nP nF nS kA fA cA gA : Nat} {I : Nat → Nat → Int32} {R : Nat → Nat → Option Nat} {L : Nat → Nat → Int64} {sh : Nat → Nat × Nat} {N : Nat} (h : IVC n tp nt nk nP nF nS kA fA cA gA I R L sh N) (hr : RFS I) (hn : n ≤ 512) {x1 : Int32} {x2 : Int32} {x3 : Int64} : SY mi_X_set mi_M_set n (I, R, L, sh, N) [.ref 0, .int x1, .int x2, .long x3] [.ref 761, .int x1, .int x2, .long x3] := by
  obtain ⟨hS, hR, hN, h7⟩ := h.1
  obtain ⟨⟨hT, hTn⟩, hTd, ⟨hV, hV2⟩, ⟨hk1, hk2, hk3⟩, h9⟩ := h.2.1
  obtain ⟨⟨t1, t2, t3, t4⟩, tn⟩ := h.2.2.1
  obtain ⟨⟨hW, hWT, hKW, rk, hrk⟩, hD, hB⟩ := h.2.2.2.1
  obtain ⟨hH, hWS⟩ := h.2.2.2.2.2.1
  have cX : Mt mi_X_set 1100 0 0 [.ref 0, .int x1, .int x2, .long x3] (I, R, L, sh, N) _ := c_X_set hS hR hV hH (by omega)
  have cM : ∀ K R' L', RPC n tp nt nk nP nF nS kA fA cA gA K R' sh N → EQS kA fA cA gA I K → Mt mi_M_set 1100 0 0 [.ref 761, .int x1, .int x2, .long x3] (K, R', L', sh, N) (RQZ K R' L' sh N (o_set (I 777) (I 778) x1 x2) (K) (u2 L' 779 (40 * x1.toInt.toNat + x2.toInt.toNat) (lowL (I 777 x1.toInt.toNat) x3))) := fun K R' L' hp he => by
    obtain ⟨⟨hS', hR', hN', h7'⟩, ⟨⟨hT', hTn'⟩, -, ⟨hV', hV2'⟩, -, -⟩, ⟨h11, -, -⟩, ⟨hW', hWT', hKW', rk', hrk'⟩, hWS'⟩ := hp
    obtain ⟨e2, ⟨eK, eF, eC, eG⟩, ⟨e7, e8, e0⟩, ⟨e11, e3⟩, e4, e5⟩ := he
    have q : Mt mi_M_set 1100 0 0 [.ref 761, .int x1, .int x2, .long x3] (K, R', L', sh, N) _ := c_M_set hS' hR' hT' hTn' hV' hk1 (by omega) hW' hrk' hWS' (by omega)
    rw [e7, e8] at q
    exact q
  rcases hx : o_set (I 777) (I 778) x1 x2 with v | k
  · rw [hx] at cX
    have c : (0 ≤ x1.toInt ∧ x1.toInt ≤ 7) ∧ 0 ≤ x2.toInt ∧ x2.toInt < (I 778 x1.toInt.toNat).toInt := by
      unfold o_set at hx
      split at hx
      · split at hx
        · cases hx
        · split at hx
          · cases hx
          · split at hx
            · exact ⟨by assumption, by assumption⟩
            · cases hx
      · cases hx
    have hs : x1.toInt.toNat < 8 := by omega
    generalize x1.toInt.toNat = s at *
    obtain ⟨z, ez, z40⟩ := (hWS s hs).2
    have ezi : (I 778 s).toInt = (z : Int) := by rw [ez]; exact nI_toInt (by omega)
    have hi : x2.toInt.toNat < 40 := by omega
    generalize x2.toInt.toNat = i at *
    refine ⟨0, 0, by omega, by omega, cX.imp (fun r h1 hq => ?_)⟩
    obtain ⟨K, R', L', rfl, rfl, hF, hq1⟩ := hq
    have hM := hF.m (sh := sh) hs
    have he := h.eqm hM
    refine ⟨0, 0, by omega, by omega, ⟨⟨_, rfl⟩, sh_761 hS⟩, (cM K R' L' (h.rpm hM (hF.2.1.2 hR) (fun j => hF.2.1.1 761 j (by omega))) he).imp (fun r2 h2 hq2 => ?_)⟩
    rw [hx] at hq2
    obtain ⟨K2, rfl, rfl, hf2⟩ := hq2
    obtain ⟨e2, ⟨eK, eF, eC, eG⟩, ⟨e7, e8, e0⟩, ⟨e11, e3⟩, e4, e5⟩ := id he
    have hf2 : FrS K K2 := hf2
    have eo : ∀ a j, ¬ scr a j → a ≠ 777 → a ≠ 778 → a ≠ 780 → K2 a j = K a j := fun a j q1 q2 q3 q4 => hf2 a j q1
    have r7 : ∀ t, t ≠ s → K2 777 t = I 777 t ∧ K2 778 t = I 778 t ∧ K2 780 t = I 780 t := fun t ht => ⟨by rw [← e7]; exact hf2.m (by omega) t, by rw [← e8]; exact hf2.m (by omega) t, by rw [← e0]; exact hf2.m (by omega) t⟩
    have v7 : K2 777 s = I 777 s := by rw [← e7]; exact hf2.m (by omega) s
    have v8 : K2 778 s = I 778 s := by rw [← e8]; exact hf2.m (by omega) s
    have hl1 : ∀ a j, a ≠ 779 → u2 L' 779 (40 * s + i) (lowL (I 777 s) x3) a j = L' a j := fun a j q => rd_ne rfl q
    refine ⟨rfl, K2, R', _, sh, N, tp, nt, nk, nP, nF, nS, kA, fA, cA, gA, rfl, h.shelf hs hF eo r7 (fun a j q1 q2 => hl1 a j (by omega)) (fun j q1 => ?_) ?_ ?_, hr.keep (fun j => (eo 744 j (fun z => by unfold scr at z; omega) (by omega) (by omega) (by omega)).trans (hF.1 744 j (by omega))) (fun j => (eo 765 j (fun z => by unfold scr at z; omega) (by omega) (by omega) (by omega)).trans (hF.1 765 j (by omega)))⟩
    · show u2 L' 779 (40 * s + i) (lowL (I 777 s) x3) 779 j = _
      rw [rd_nk (I' := u2 L' 779 (40 * s + i) (lowL (I 777 s) x3)) rfl (by omega)]
      exact hF.2.2 779 j (by omega)
    · rw [v7, v8]
      refine hq1 _ _ (fun j hj => ?_)
      show u2 L' 779 (40 * s + i) (lowL (I 777 s) x3) 779 (40 * s + j) = _
      by_cases q : j = i
      · rw [if_pos q, q]; exact rd_eq rfl
      · rw [if_neg q, rd_nk (I' := u2 L' 779 (40 * s + i) (lowL (I 777 s) x3)) rfl (by omega)]
        exact hF.2.2 779 _ (by omega)
    · rw [v8]; exact ⟨z, ez, z40⟩
  · rw [hx] at cX
    exact SY.bad h hr (cX.imp (fun r h1 hq => by
      obtain ⟨K, R', L', q1, q2, q3, q4, q5⟩ := hq
      subst q3; subst q4
      exact ⟨K, R', q1, q2, FrXR.rf, q5⟩)) (fun K R' hp he => (cM K R' L hp he).imp (fun r2 h2 hq2 => by
      rw [hx] at hq2; exact hq2))
theorem s_copy {n tp nt nk nP nF nS kA fA cA gA : Nat} {I : Nat → Nat → Int32} {R : Nat → Nat → Option Nat} {L : Nat → Nat → Int64} {sh : Nat → Nat × Nat} {N : Nat} (h : IVC n tp nt nk nP nF nS kA fA cA gA I R L sh N) (hr : RFS I) (hn : n ≤ 512) {x1 : Int32} {x2 : Int32} {x3 : Int32} {x4 : Int32} {x5 : Int32} : SY mi_X_copy mi_M_copy n (I, R, L, sh, N) [.ref 0, .int x1, .int x2, .int x3, .int x4, .int x5] [.ref 761, .int x1, .int x2, .int x3, .int x4, .int x5] := by
  obtain ⟨hS, hR, hN, h7⟩ := h.1
  obtain ⟨⟨hT, hTn⟩, hTd, ⟨hV, hV2⟩, ⟨hk1, hk2, hk3⟩, h9⟩ := h.2.1
  obtain ⟨⟨t1, t2, t3, t4⟩, tn⟩ := h.2.2.1
  obtain ⟨⟨hW, hWT, hKW, rk, hrk⟩, hD, hB⟩ := h.2.2.2.1
  obtain ⟨hH, hWS⟩ := h.2.2.2.2.2.1
  have cX : Mt mi_X_copy 1100 0 0 [.ref 0, .int x1, .int x2, .int x3, .int x4, .int x5] (I, R, L, sh, N) _ := c_X_copy hS hR hV hH (by omega)
  have cM : ∀ K R' L', RPC n tp nt nk nP nF nS kA fA cA gA K R' sh N → EQS kA fA cA gA I K → Mt mi_M_copy 1100 0 0 [.ref 761, .int x1, .int x2, .int x3, .int x4, .int x5] (K, R', L', sh, N) (RQZ K R' L' sh N (o_copy (I 777) (I 778) x1 x2 x3 x4 x5) (K) (L_copy L' x1 x2 x3 x4 x5)) := fun K R' L' hp he => by
    obtain ⟨⟨hS', hR', hN', h7'⟩, ⟨⟨hT', hTn'⟩, -, ⟨hV', hV2'⟩, -, -⟩, ⟨h11, -, -⟩, ⟨hW', hWT', hKW', rk', hrk'⟩, hWS'⟩ := hp
    obtain ⟨e2, ⟨eK, eF, eC, eG⟩, ⟨e7, e8, e0⟩, ⟨e11, e3⟩, e4, e5⟩ := he
    have q : Mt mi_M_copy 1100 0 0 [.ref 761, .int x1, .int x2, .int x3, .int x4, .int x5] (K, R', L', sh, N) _ := c_M_copy hS' hR' hT' hTn' hV' hk1 (by omega) hW' hrk' hWS' (by omega)
    rw [e7, e8] at q
    exact q
  rcases hx : o_copy (I 777) (I 778) x1 x2 x3 x4 x5 with v | k
  · rw [hx] at cX
    have c : ((0 ≤ x1.toInt ∧ x1.toInt ≤ 7) ∧ 0 ≤ x2.toInt ∧ x2.toInt ≤ 7) ∧ 0 ≤ x3.toInt ∧ 0 ≤ x4.toInt ∧ 0 ≤ x5.toInt ∧ x3.toInt + x5.toInt ≤ (I 778 x1.toInt.toNat).toInt ∧ x4.toInt + x5.toInt ≤ (I 778 x2.toInt.toNat).toInt := by
      unfold o_copy at hx
      split at hx
      · split at hx
        · cases hx
        · split at hx
          · cases hx
          · split at hx
            · exact ⟨by assumption, by assumption⟩
            · cases hx
      · cases hx
    have hs : x2.toInt.toNat < 8 := by omega
    obtain ⟨z, ez, z40⟩ := (hWS x2.toInt.toNat hs).2
    have ezi : (I 778 x2.toInt.toNat).toInt = (z : Int) := by rw [ez]; exact nI_toInt (by omega)
    have hjn : x4.toInt.toNat + x5.toInt.toNat ≤ 40 := by omega
    unfold L_copy at cM
    generalize x2.toInt.toNat = s at *
    generalize x1.toInt.toNat = p at *
    generalize x3.toInt.toNat = i at *
    generalize x4.toInt.toNat = jj at *
    generalize x5.toInt.toNat = m at *
    refine ⟨0, 0, by omega, by omega, cX.imp (fun r h1 hq => ?_)⟩
    obtain ⟨K, R', L', rfl, rfl, hF, hq1⟩ := hq
    have hM := hF.m (sh := sh) hs
    have he := h.eqm hM
    refine ⟨0, 0, by omega, by omega, ⟨⟨_, rfl⟩, sh_761 hS⟩, (cM K R' L' (h.rpm hM (hF.2.1.2 hR) (fun j => hF.2.1.1 761 j (by omega))) he).imp (fun r2 h2 hq2 => ?_)⟩
    rw [hx] at hq2
    obtain ⟨K2, rfl, rfl, hf2⟩ := hq2
    obtain ⟨e2, ⟨eK, eF, eC, eG⟩, ⟨e7, e8, e0⟩, ⟨e11, e3⟩, e4, e5⟩ := id he
    have hf2 : FrS K K2 := hf2
    have eo : ∀ a j, ¬ scr a j → a ≠ 777 → a ≠ 778 → a ≠ 780 → K2 a j = K a j := fun a j q1 q2 q3 q4 => hf2 a j q1
    have r7 : ∀ t, t ≠ s → K2 777 t = I 777 t ∧ K2 778 t = I 778 t ∧ K2 780 t = I 780 t := fun t ht => ⟨by rw [← e7]; exact hf2.m (by omega) t, by rw [← e8]; exact hf2.m (by omega) t, by rw [← e0]; exact hf2.m (by omega) t⟩
    have v7 : K2 777 s = I 777 s := by rw [← e7]; exact hf2.m (by omega) s
    have v8 : K2 778 s = I 778 s := by rw [← e8]; exact hf2.m (by omega) s
    have hl9 : ∀ j, L' 779 j = L 779 j := fun j => hF.2.2 779 j (by omega)
    have hl1 : ∀ a j, a ≠ 779 → cpE L' (40 * s + jj) (40 * p + i) (fun x => decide (40 * s + jj ≤ x ∧ x < 40 * s + jj + m)) a j = L' a j := fun a j q => by unfold cpE; rw [if_neg (fun z => q z.1)]
    have hl2 : ∀ j, ¬ (40 * s + jj ≤ j ∧ j < 40 * s + jj + m) → cpE L' (40 * s + jj) (40 * p + i) (fun x => decide (40 * s + jj ≤ x ∧ x < 40 * s + jj + m)) 779 j = L 779 j := fun j q => by
      unfold cpE
      rw [if_neg (fun z => q (of_decide_eq_true z.2))]
      exact hl9 j
    have hl3 : ∀ j, 40 * s + jj ≤ j ∧ j < 40 * s + jj + m → cpE L' (40 * s + jj) (40 * p + i) (fun x => decide (40 * s + jj ≤ x ∧ x < 40 * s + jj + m)) 779 j = L 779 (j - (40 * s + jj) + (40 * p + i)) := fun j q => by
      unfold cpE
      rw [if_pos ⟨rfl, decide_eq_true q⟩]
      exact hl9 _
    refine ⟨rfl, K2, R', _, sh, N, tp, nt, nk, nP, nF, nS, kA, fA, cA, gA, rfl, h.shelf hs hF eo r7 (fun a j q1 q2 => hl1 a j (by omega)) (fun j q1 => ?_) ?_ ?_, hr.keep (fun j => (eo 744 j (fun z => by unfold scr at z; omega) (by omega) (by omega) (by omega)).trans (hF.1 744 j (by omega))) (fun j => (eo 765 j (fun z => by unfold scr at z; omega) (by omega) (by omega) (by omega)).trans (hF.1 765 j (by omega)))⟩
    · exact hl2 j (by omega)
    · rw [v7, v8]
      refine hq1 _ _ (fun j hj => ?_)
      by_cases q : jj ≤ j ∧ j < jj + m
      · rw [if_pos q]
        refine (hl3 (40 * s + j) (by omega)).trans ?_
        congr 1; omega
      · rw [if_neg q]
        exact hl2 (40 * s + j) (by omega)
    · rw [v8]; exact ⟨z, ez, z40⟩
  · rw [hx] at cX
    exact SY.bad h hr (cX.imp (fun r h1 hq => by
      obtain ⟨K, R', L', q1, q2, q3, q4, q5⟩ := hq
      subst q3; subst q4
      exact ⟨K, R', q1, q2, FrXR.rf, q5⟩)) (fun K R' hp he => (cM K R' L hp he).imp (fun r2 h2 hq2 => by
      rw [hx] at hq2; exact hq2))
theorem s_show {n tp nt nk nP nF nS kA fA cA gA : Nat} {I : Nat → Nat → Int32} {R : Nat → Nat → Option Nat} {L : Nat → Nat → Int64} {sh : Nat → Nat × Nat} {N : Nat} (h : IVC n tp nt nk nP nF nS kA fA cA gA I R L sh N) (hr : RFS I) (hn : n ≤ 512) {x1 : Int32} {x2 : Int32} {x3 : Int32} {x4 : Int32} : SY mi_X_show mi_M_show n (I, R, L, sh, N) [.ref 0, .int x1, .int x2, .int x3, .int x4] [.ref 761, .int x1, .int x2, .int x3, .int x4] := by
  obtain ⟨hS, hR, hN, h7⟩ := h.1
  obtain ⟨⟨hT, hTn⟩, hTd, ⟨hV, hV2⟩, ⟨hk1, hk2, hk3⟩, h9⟩ := h.2.1
  obtain ⟨⟨t1, t2, t3, t4⟩, tn⟩ := h.2.2.1
  obtain ⟨⟨hW, hWT, hKW, rk, hrk⟩, hD, hB⟩ := h.2.2.2.1
  obtain ⟨hH, hWS⟩ := h.2.2.2.2.2.1
  have cX : Mt mi_X_show 1100 0 0 [.ref 0, .int x1, .int x2, .int x3, .int x4] (I, R, L, sh, N) _ := c_X_show hS hR hV hV2 (by omega) hW hWT hKW hrk hD (by omega)
  have cM : ∀ K R' L', RPC n tp nt nk nP nF nS kA fA cA gA K R' sh N → EQS kA fA cA gA I K → Mt mi_M_show 1100 0 0 [.ref 761, .int x1, .int x2, .int x3, .int x4] (K, R', L', sh, N) (RQT K R' L' sh N (o_show (I kA) (I fA) (I cA) (I 762) nF x1 x2 x3 x4) (I_show K (I kA) (I fA) (I cA) x1 x2 x3 x4)) := fun K R' L' hp he => by
    obtain ⟨⟨hS', hR', hN', h7'⟩, ⟨⟨hT', hTn'⟩, -, ⟨hV', hV2'⟩, -, -⟩, ⟨h11, -, -⟩, ⟨hW', hWT', hKW', rk', hrk'⟩, hWS'⟩ := hp
    obtain ⟨e2, ⟨eK, eF, eC, eG⟩, ⟨e7, e8, e0⟩, ⟨e11, e3⟩, e4, e5⟩ := he
    have q : Mt mi_M_show 1100 0 0 [.ref 761, .int x1, .int x2, .int x3, .int x4] (K, R', L', sh, N) _ := c_M_show hS' hR' hT' hTn' hV' hk1 (by omega) hW' hrk' hWS' (by omega)
    rw [e2, eK, eF, eC] at q
    exact q
  rcases hx : o_show (I kA) (I fA) (I cA) (I 762) nF x1 x2 x3 x4 with v | k
  · rw [hx] at cX
    have c : 0 ≤ x1.toInt ∧ x1.toInt ≤ 7 := by
      unfold o_show at hx
      split at hx
      · assumption
      · cases hx
    have hs : x1.toInt.toNat < 8 := by omega
    obtain ⟨z, ez, z40⟩ := (hWS x1.toInt.toNat hs).2
    unfold I_show at cM
    generalize x1.toInt.toNat = s at *
    refine ⟨0, 0, by omega, by omega, cX.imp (fun r h1 hq => ?_)⟩
    obtain ⟨K, R', L', rfl, rfl, hF, hq1⟩ := hq
    have hM := hF.m (sh := sh) hs
    have he := h.eqm hM
    refine ⟨0, 0, by omega, by omega, ⟨⟨_, rfl⟩, sh_761 hS⟩, (cM K R' L' (h.rpm hM (hF.2.1.2 hR) (fun j => hF.2.1.1 761 j (by omega))) he).imp (fun r2 h2 hq2 => ?_)⟩
    rw [hx] at hq2
    obtain ⟨K2, rfl, rfl, hf2⟩ := hq2
    obtain ⟨e2, ⟨eK, eF, eC, eG⟩, ⟨e7, e8, e0⟩, ⟨e11, e3⟩, e4, e5⟩ := id he
    have hex : ∃ T, FrS T K2 ∧ (∀ a j, a ≠ 777 → a ≠ 780 → T a j = K a j) ∧ (∀ t, t ≠ s → T 777 t = K 777 t ∧ T 780 t = K 780 t) ∧ T 777 s = shA (I kA) (I fA) (I cA) (I 762) x2 x3 x4 ∧ (¬ x2.toInt = -1 → T 780 s = shZ (I fA) (I cA) (I 762) x2 x3 x4) := by
      refine ⟨_, hf2, ?_⟩
      unfold shA
      by_cases q : x2.toInt = -1
      · rw [if_pos q, if_pos q]
        exact ⟨fun a j q1 q2 => rd_ne rfl q1, fun t ht => ⟨rd_nk rfl ht, rd_ne rfl (by omega)⟩, rd_eq rfl, fun z => absurd q z⟩
      · rw [if_neg q, if_neg q, e2]
        exact ⟨fun a j q1 q2 => (rd_ne rfl q1).trans (rd_ne rfl q2), fun t ht => ⟨(rd_nk rfl ht).trans (rd_ne rfl (by omega)), (rd_ne rfl (by omega)).trans (rd_nk rfl ht)⟩, rd_eq rfl, fun _ => (rd_ne rfl (by omega)).trans (rd_eq rfl)⟩
    obtain ⟨T, hf2, y1, y2, y3, y4⟩ := hex
    have eo : ∀ a j, ¬ scr a j → a ≠ 777 → a ≠ 778 → a ≠ 780 → K2 a j = K a j := fun a j q1 q2 q3 q4 => (hf2 a j q1).trans (y1 a j q2 q4)
    have r7 : ∀ t, t ≠ s → K2 777 t = I 777 t ∧ K2 778 t = I 778 t ∧ K2 780 t = I 780 t := fun t ht => ⟨by rw [← e7]; exact (hf2.m (by omega) t).trans (y2 t ht).1, by rw [← e8]; exact (hf2.m (by omega) t).trans (y1 _ _ (by omega) (by omega)), by rw [← e0]; exact (hf2.m (by omega) t).trans (y2 t ht).2⟩
    have v7 : K2 777 s = shA (I kA) (I fA) (I cA) (I 762) x2 x3 x4 := (hf2.m (by omega) s).trans y3
    have v8 : K2 778 s = I 778 s := by rw [← e8]; exact (hf2.m (by omega) s).trans (y1 _ _ (by omega) (by omega))
    refine ⟨rfl, K2, R', _, sh, N, tp, nt, nk, nP, nF, nS, kA, fA, cA, gA, rfl, h.shelf hs hF eo r7 (fun a j q1 q2 => rfl) (fun j q1 => ?_) ?_ ?_, hr.keep (fun j => (eo 744 j (fun z => by unfold scr at z; omega) (by omega) (by omega) (by omega)).trans (hF.1 744 j (by omega))) (fun j => (eo 765 j (fun z => by unfold scr at z; omega) (by omega) (by omega) (by omega)).trans (hF.1 765 j (by omega)))⟩
    · exact hF.2.2 779 j (by omega)
    · rw [v7, v8]
      by_cases q : x2.toInt = -1
      · have ea : (shA (I kA) (I fA) (I cA) (I 762) x2 x3 x4).toInt = -1 := by unfold shA; rw [if_pos q]; rfl
        rcases hq1 (I 778 s) (L' 779) with y | ⟨y, -⟩ | ⟨c2, m2, bb, n2, y5, y6, y7, y8, y9, y10, y11, y12⟩
        · exact Or.inl y
        · omega
        · have := (SH1.ci hV (show bb + n2 < nt by omega) y12).1
          have := (SH1.ci hV (show bb + n2 < nt by omega) y12).2
          omega
      · rw [(hf2.m (by omega) s).trans (y4 q)]
        exact hq1 _ _
    · rw [v8]; exact ⟨z, ez, z40⟩
  · rw [hx] at cX
    exact SY.bad h hr (cX.imp (fun r h1 hq => by
      obtain ⟨K, R', L', q1, q2, q3, q4, q5⟩ := hq
      subst q3; subst q4
      exact ⟨K, R', q1, q2, FrXR.rf, q5⟩)) (fun K R' hp he => (cM K R' L hp he).imp (fun r2 h2 hq2 => by
      rw [hx] at hq2; exact hq2))
