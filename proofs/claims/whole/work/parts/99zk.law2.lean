/-! THE LAW'S CALLS: holds, element, status, spelled -/
theorem s_holds {n tp nt nk nP nF nS kA fA cA gA : Nat} {I : Nat → Nat → Int32} {R : Nat → Nat → Option Nat} {L : Nat → Nat → Int64} {sh : Nat → Nat × Nat} {N : Nat} (h : IVC n tp nt nk nP nF nS kA fA cA gA I R L sh N) (hr : RFS I) (hn : n ≤ 512) {x1 : Int32} : SY mi_X_holds mi_M_holds n (I, R, L, sh, N) [.ref 0, .int x1] [.ref 761, .int x1] := by
  obtain ⟨hS, hR, hN, h7⟩ := h.1
  obtain ⟨⟨hT, hTn⟩, hTd, ⟨hV, hV2⟩, ⟨hk1, hk2, hk3⟩, h9⟩ := h.2.1
  obtain ⟨⟨t1, t2, t3, t4⟩, tn⟩ := h.2.2.1
  obtain ⟨⟨hW, hWT, hKW, rk, hrk⟩, hD, hB⟩ := h.2.2.2.1
  obtain ⟨hH, hWS⟩ := h.2.2.2.2.2.1
  refine SY.ask h hr (c_X_holds hS hR hV hH (by omega)) (fun K R' hp he => ?_)
  obtain ⟨⟨hS', hR', hN', h7'⟩, ⟨⟨hT', hTn'⟩, -, ⟨hV', hV2'⟩, -, -⟩, ⟨h11, -, -⟩, ⟨hW', hWT', hKW', rk', hrk'⟩, hWS'⟩ := hp
  obtain ⟨e2, ⟨eK, eF, eC, eG⟩, ⟨e7, e8, e0⟩, ⟨e11, e3⟩, e4, e5⟩ := he
  have q : Mt mi_M_holds 1100 0 0 [.ref 761, .int x1] (K, R', L, sh, N) _ := c_M_holds hS' hR' hT' hTn' hV' hk1 (by omega) hW' hrk' hWS' (by omega)
  rw [e7] at q
  exact q
theorem s_element {n tp nt nk nP nF nS kA fA cA gA : Nat} {I : Nat → Nat → Int32} {R : Nat → Nat → Option Nat} {L : Nat → Nat → Int64} {sh : Nat → Nat × Nat} {N : Nat} (h : IVC n tp nt nk nP nF nS kA fA cA gA I R L sh N) (hr : RFS I) (hn : n ≤ 512) {x1 : Int32} {x2 : Int32} : SYL mi_X_element mi_M_element n (I, R, L, sh, N) [.ref 0, .int x1, .int x2] [.ref 761, .int x1, .int x2] := by
  obtain ⟨hS, hR, hN, h7⟩ := h.1
  obtain ⟨⟨hT, hTn⟩, hTd, ⟨hV, hV2⟩, ⟨hk1, hk2, hk3⟩, h9⟩ := h.2.1
  obtain ⟨⟨t1, t2, t3, t4⟩, tn⟩ := h.2.2.1
  obtain ⟨⟨hW, hWT, hKW, rk, hrk⟩, hD, hB⟩ := h.2.2.2.1
  obtain ⟨hH, hWS⟩ := h.2.2.2.2.2.1
  refine ⟨0, 0, by omega, by omega, (c_X_element hS hR hV hH (by omega)).imp (fun r h1 hq => ?_)⟩
  obtain ⟨rfl, rfl⟩ := hq
  refine ⟨0, 0, by omega, by omega, ⟨⟨_, rfl⟩, sh_761 hS⟩, (c_M_element hS hR hT hTn hV hk1 (by omega) hW hrk hWS (by omega)).imp (fun r2 h2 hq2 => ?_)⟩
  obtain ⟨rfl, rfl⟩ := hq2
  exact ⟨rfl, I, R, L, sh, N, tp, nt, nk, nP, nF, nS, kA, fA, cA, gA, rfl, h.same (fun _ _ _ _ _ _ => rfl) FrXR.rf (Nat.le_succ n), hr⟩
theorem o_status_c {G : Nat → Int32} {nP nF hl : Nat} {tp k : Int32} {f g : Nat → Int32} (e : ∀ j, j < 5 → f j = g j) : o_status G nP nF tp hl f k = o_status G nP nF tp hl g k := by
  unfold o_status
  by_cases c : 12 ≤ k.toInt ∧ k.toInt ≤ 16
  · rw [e (k.toInt.toNat - 12) (by omega)]
  · rw [if_neg c, if_neg c]
theorem s_status {n tp nt nk nP nF nS kA fA cA gA : Nat} {I : Nat → Nat → Int32} {R : Nat → Nat → Option Nat} {L : Nat → Nat → Int64} {sh : Nat → Nat × Nat} {N : Nat} (h : IVC n tp nt nk nP nF nS kA fA cA gA I R L sh N) (hr : RFS I) (hn : n ≤ 512) {x1 : Int32} : SY mi_X_status mi_M_status n (I, R, L, sh, N) [.ref 0, .int x1] [.ref 761, .int x1] := by
  obtain ⟨hS, hR, hN, h7⟩ := h.1
  obtain ⟨⟨hT, hTn⟩, hTd, ⟨hV, hV2⟩, ⟨hk1, hk2, hk3⟩, h9⟩ := h.2.1
  obtain ⟨⟨t1, t2, t3, t4⟩, tn⟩ := h.2.2.1
  obtain ⟨⟨hW, hWT, hKW, rk, hrk⟩, hD, hB⟩ := h.2.2.2.1
  obtain ⟨hH, hWS⟩ := h.2.2.2.2.2.1
  have hst : Mt mi_X_status 1100 0 0 [.ref 0, .int x1] (I, R, L, sh, N) _ := c_X_status hS hR hV hV2 (by omega) hW hWT hKW hrk hD hH t3 (by omega)
  rw [o_status_c hr] at hst
  refine SY.ask h hr hst (fun K R' hp he => ?_)
  obtain ⟨⟨hS', hR', hN', h7'⟩, ⟨⟨hT', hTn'⟩, -, ⟨hV', hV2'⟩, -, -⟩, ⟨h11, -, -⟩, ⟨hW', hWT', hKW', rk', hrk'⟩, hWS'⟩ := hp
  obtain ⟨e2, ⟨eK, eF, eC, eG⟩, ⟨e7, e8, e0⟩, ⟨e11, e3⟩, e4, e5⟩ := he
  have q : Mt mi_M_status 1100 0 0 [.ref 761, .int x1] (K, R', L, sh, N) _ := c_M_status hS' hR' hT' hTn' hV' hk1 (by omega) hW' hrk' (by omega)
  rw [e2, h11, e7, e5] at q
  exact q
/-- what is spelled of a condition is no longer than the tape -/
theorem spt_short {K F C S : Nat → Int32} {I : Nat → Nat → Int32} {R : Nat → Nat → Option Nat} {sh : Nat → Nat × Nat} {nt nP nF nS : Nat} {G : Nat → Int32} (hV : TV K F C nt) (hnt : nt ≤ 1000) (hL : LYO I R sh) (hD : DR K F C S I R sh nt 0 G nP nF nS) : ∀ E, E < nF → ∀ r, r < nRof G E → (spt K F C S (G (174 + 84 * E + 60 + 4 * r + 0)).toInt.toNat).length ≤ 300 := by
  intro E hE r hr
  obtain ⟨-, -, -, -, -, x6⟩ := hD.2.2.2.1 E hE
  obtain ⟨-, -, c, m, b, y3, y4, y5, y6⟩ := x6 r hr
  obtain ⟨ns, hC, hv, hp, hl, h250, h0⟩ := hL c y4.1.1
  obtain ⟨rfl, hn⟩ := y4.nin hC hv h250 (by omega)
  have e : (G (174 + 84 * E + 60 + 4 * r + 0)).toInt.toNat = b + (ns.length - 1) := by rw [y6, nI_toInt (by omega)]; omega
  rw [e, tx_spt hV y5 (by omega) hv hn (ns.length - 1) (by omega), tx_len hv (ns.length - 1) (by omega)]
  omega
theorem s_spelled {n tp nt nk nP nF nS kA fA cA gA : Nat} {I : Nat → Nat → Int32} {R : Nat → Nat → Option Nat} {L : Nat → Nat → Int64} {sh : Nat → Nat × Nat} {N : Nat} (h : IVC n tp nt nk nP nF nS kA fA cA gA I R L sh N) (hr : RFS I) (hn : n ≤ 512) {x1 : Int32} {x2 : Int32} {x3 : Int32} : SY mi_X_spelled mi_M_spelled n (I, R, L, sh, N) [.ref 0, .int x1, .int x2, .int x3] [.ref 761, .int x1, .int x2, .int x3] := by
  obtain ⟨hS, hR, hN, h7⟩ := h.1
  obtain ⟨⟨hT, hTn⟩, hTd, ⟨hV, hV2⟩, ⟨hk1, hk2, hk3⟩, h9⟩ := h.2.1
  obtain ⟨⟨t1, t2, t3, t4⟩, tn⟩ := h.2.2.1
  obtain ⟨⟨hW, hWT, hKW, rk, hrk⟩, hD, hB⟩ := h.2.2.2.1
  obtain ⟨hH, hWS⟩ := h.2.2.2.2.2.1
  have hLY := h.2.2.2.2.2.2
  have hsp := spt_short hV (by omega) hLY hD
  refine SY.ask h hr (c_X_spelled hS hR hV hV2 (by omega) hW hWT hKW hrk hD hLY (by omega)) (fun K R' hp he => ?_)
  obtain ⟨⟨hS', hR', hN', h7'⟩, ⟨⟨hT', hTn'⟩, -, ⟨hV', hV2'⟩, -, -⟩, ⟨h11, -, -⟩, ⟨hW', hWT', hKW', rk', hrk'⟩, hWS'⟩ := hp
  obtain ⟨e2, ⟨eK, eF, eC, eG⟩, ⟨e7, e8, e0⟩, ⟨e11, e3⟩, e4, e5⟩ := he
  have q : Mt mi_M_spelled 1100 0 0 [.ref 761, .int x1, .int x2, .int x3] (K, R', L, sh, N) _ := c_M_spelled hS' hR' hT' hTn' hV' hk1 (by omega) hW' hrk' hV2' (by rw [e2, eK, eF, eC, eG]; exact hsp) (by omega)
  rw [e2, eK, eF, eC, eG] at q
  exact q
