/-! THE LAW'S CALLS: those that change a desk -/
theorem f3_part {G : Nat → Int32} {nF : Nat} {f s k q : Int32} : g_part G nF f s k q 3 = G 3 := by
  unfold g_part; split
  · split
    · rfl
    · exact u1_o (by omega)
  · rfl
theorem f3_tell {G : Nat → Int32} {nF : Nat} {f k v : Int32} : g_tell G nF f k v 3 = G 3 := by
  unfold g_tell; split
  · split
    · exact u1_o (by omega)
    · rfl
  · rfl
theorem f3_drop {G : Nat → Int32} {nF : Nat} {f s : Int32} : g_drop G nF f s 3 = G 3 := by
  unfold g_drop; split
  · split
    · unfold g_drop1; rw [u1_o (by omega), shf_o (by omega)]
    · rfl
  · rfl
theorem f3_free {G : Nat → Int32} {nF : Nat} {f : Int32} : g_free G nF f 3 = G 3 := by
  unfold g_free; split
  · exact u1_o (by omega)
  · rfl
theorem f3_seed {G : Nat → Int32} {v : Int32} : g_seed G v 3 = G 3 := u1_o (by omega)
theorem f3_forget {G : Nat → Int32} {nF : Nat} {f : Int32} : g_forget G nF f 3 = G 3 := by
  unfold g_forget; split
  · exact fil_o (by omega)
  · rfl
theorem f3_layer {G : Nat → Int32} {nF : Nat} {f l a b : Int32} : g_layer G nF f l a b 3 = G 3 := by
  have ho : ∀ (F : Nat) (x y z : Int32), g_layer1 G F x y z 3 = G 3 := fun F x y z => by unfold g_layer1; rw [u1_o (by omega), u1_o (by omega), u1_o (by omega)]
  unfold g_layer; split
  · rcases fst1 (meets G f.toInt.toNat l a b) nF with _ | k
    · dsimp only
      split
      · exact ho _ _ _ _
      · exact ho _ _ _ _
    · rfl
  · rfl
theorem f3_needs {G : Nat → Int32} {nF : Nat} {f x v : Int32} : g_needs G nF f x v 3 = G 3 := by
  unfold g_needs; split
  · split
    · rfl
    · split
      · rfl
      · unfold g_needs1; rw [u1_o (by omega), u1_o (by omega), u1_o (by omega)]
  · rfl
theorem f3_override {G : Nat → Int32} {nP nF : Nat} {f key v : Int32} : g_override G nP nF f key v 3 = G 3 := by
  unfold g_override; split
  · rcases pB G nP key with _ | p
    · rfl
    · dsimp only
      rcases oB G f.toInt.toNat (G (174 + 84 * f.toInt.toNat + 6)).toInt.toNat key with _ | k
      · dsimp only
        split
        · rfl
        · split
          · rfl
          · rw [u1_o (by omega), u1_o (by omega), u1_o (by omega)]
      · dsimp only
        split
        · unfold g_loses; rw [u1_o (by omega), shf_o (by omega)]
        · exact u1_o (by omega)
  · rfl
theorem s_part {n tp nt nk nP nF nS kA fA cA gA : Nat} {I : Nat → Nat → Int32} {R : Nat → Nat → Option Nat} {L : Nat → Nat → Int64} {sh : Nat → Nat × Nat} {N : Nat} (h : IVC n tp nt nk nP nF nS kA fA cA gA I R L sh N) (hr : RFS I) (hn : n ≤ 512) {x1 : Int32} {x2 : Int32} {x3 : Int32} {x4 : Int32} : SY mi_X_part mi_M_part n (I, R, L, sh, N) [.ref 0, .int x1, .int x2, .int x3, .int x4] [.ref 761, .int x1, .int x2, .int x3, .int x4] := by
  obtain ⟨hS, hR, hN, h7⟩ := h.1
  obtain ⟨⟨hT, hTn⟩, hTd, ⟨hV, hV2⟩, ⟨hk1, hk2, hk3⟩, h9⟩ := h.2.1
  obtain ⟨⟨t1, t2, t3, t4⟩, tn⟩ := h.2.2.1
  obtain ⟨⟨hW, hWT, hKW, rk, hrk⟩, hD, hB⟩ := h.2.2.2.1
  obtain ⟨hH, hWS⟩ := h.2.2.2.2.2.1
  refine SY.chg h hr (c_X_part hS hR hV hV2 (by omega) hW hWT hKW hrk hD  (by omega)) (fun K R' hp he => ?_) (fun v e => ⟨w_part h.2.2.2.1.1, by rw [f3_part]; omega⟩) (fun j e => n_part e)
  obtain ⟨⟨hS', hR', hN', h7'⟩, ⟨⟨hT', hTn'⟩, -, ⟨hV', hV2'⟩, -, -⟩, ⟨h11, -, -⟩, ⟨hW', hWT', hKW', rk', hrk'⟩, hWS'⟩ := hp
  obtain ⟨e2, ⟨eK, eF, eC, eG⟩, ⟨e7, e8, e0⟩, ⟨e11, e3⟩, e4, e5⟩ := he
  have q : Mt mi_M_part 1100 0 0 [.ref 761, .int x1, .int x2, .int x3, .int x4] (K, R', L, sh, N) _ := c_M_part hS' hR' hT' hTn' hV' hk1 (by omega) hW' hrk'  (by omega)
  rw [e2] at q
  exact q
theorem s_tell {n tp nt nk nP nF nS kA fA cA gA : Nat} {I : Nat → Nat → Int32} {R : Nat → Nat → Option Nat} {L : Nat → Nat → Int64} {sh : Nat → Nat × Nat} {N : Nat} (h : IVC n tp nt nk nP nF nS kA fA cA gA I R L sh N) (hr : RFS I) (hn : n ≤ 512) {x1 : Int32} {x2 : Int32} {x3 : Int32} : SY mi_X_tell mi_M_tell n (I, R, L, sh, N) [.ref 0, .int x1, .int x2, .int x3] [.ref 761, .int x1, .int x2, .int x3] := by
  obtain ⟨hS, hR, hN, h7⟩ := h.1
  obtain ⟨⟨hT, hTn⟩, hTd, ⟨hV, hV2⟩, ⟨hk1, hk2, hk3⟩, h9⟩ := h.2.1
  obtain ⟨⟨t1, t2, t3, t4⟩, tn⟩ := h.2.2.1
  obtain ⟨⟨hW, hWT, hKW, rk, hrk⟩, hD, hB⟩ := h.2.2.2.1
  obtain ⟨hH, hWS⟩ := h.2.2.2.2.2.1
  refine SY.chg h hr (c_X_tell hS hR hV hV2 (by omega) hW hWT hKW hrk hD  (by omega)) (fun K R' hp he => ?_) (fun v e => ⟨w_tell h.2.2.2.1.1, by rw [f3_tell]; omega⟩) (fun j e => n_tell e)
  obtain ⟨⟨hS', hR', hN', h7'⟩, ⟨⟨hT', hTn'⟩, -, ⟨hV', hV2'⟩, -, -⟩, ⟨h11, -, -⟩, ⟨hW', hWT', hKW', rk', hrk'⟩, hWS'⟩ := hp
  obtain ⟨e2, ⟨eK, eF, eC, eG⟩, ⟨e7, e8, e0⟩, ⟨e11, e3⟩, e4, e5⟩ := he
  have q : Mt mi_M_tell 1100 0 0 [.ref 761, .int x1, .int x2, .int x3] (K, R', L, sh, N) _ := c_M_tell hS' hR' hT' hTn' hV' hk1 (by omega) hW' hrk'  (by omega)
  rw [e2] at q
  exact q
theorem s_drop {n tp nt nk nP nF nS kA fA cA gA : Nat} {I : Nat → Nat → Int32} {R : Nat → Nat → Option Nat} {L : Nat → Nat → Int64} {sh : Nat → Nat × Nat} {N : Nat} (h : IVC n tp nt nk nP nF nS kA fA cA gA I R L sh N) (hr : RFS I) (hn : n ≤ 512) {x1 : Int32} {x2 : Int32} : SY mi_X_drop mi_M_drop n (I, R, L, sh, N) [.ref 0, .int x1, .int x2] [.ref 761, .int x1, .int x2] := by
  obtain ⟨hS, hR, hN, h7⟩ := h.1
  obtain ⟨⟨hT, hTn⟩, hTd, ⟨hV, hV2⟩, ⟨hk1, hk2, hk3⟩, h9⟩ := h.2.1
  obtain ⟨⟨t1, t2, t3, t4⟩, tn⟩ := h.2.2.1
  obtain ⟨⟨hW, hWT, hKW, rk, hrk⟩, hD, hB⟩ := h.2.2.2.1
  obtain ⟨hH, hWS⟩ := h.2.2.2.2.2.1
  refine SY.chg h hr (c_X_drop hS hR hV hV2 (by omega) hW hWT hKW hrk hD  (by omega)) (fun K R' hp he => ?_) (fun v e => ⟨w_drop h.2.2.2.1.1, by rw [f3_drop]; omega⟩) (fun j e => n_drop e)
  obtain ⟨⟨hS', hR', hN', h7'⟩, ⟨⟨hT', hTn'⟩, -, ⟨hV', hV2'⟩, -, -⟩, ⟨h11, -, -⟩, ⟨hW', hWT', hKW', rk', hrk'⟩, hWS'⟩ := hp
  obtain ⟨e2, ⟨eK, eF, eC, eG⟩, ⟨e7, e8, e0⟩, ⟨e11, e3⟩, e4, e5⟩ := he
  have q : Mt mi_M_drop 1100 0 0 [.ref 761, .int x1, .int x2] (K, R', L, sh, N) _ := c_M_drop hS' hR' hT' hTn' hV' hk1 (by omega) hW' hrk'  (by omega)
  rw [e2] at q
  exact q
theorem s_free {n tp nt nk nP nF nS kA fA cA gA : Nat} {I : Nat → Nat → Int32} {R : Nat → Nat → Option Nat} {L : Nat → Nat → Int64} {sh : Nat → Nat × Nat} {N : Nat} (h : IVC n tp nt nk nP nF nS kA fA cA gA I R L sh N) (hr : RFS I) (hn : n ≤ 512) {x1 : Int32} : SY mi_X_free mi_M_free n (I, R, L, sh, N) [.ref 0, .int x1] [.ref 761, .int x1] := by
  obtain ⟨hS, hR, hN, h7⟩ := h.1
  obtain ⟨⟨hT, hTn⟩, hTd, ⟨hV, hV2⟩, ⟨hk1, hk2, hk3⟩, h9⟩ := h.2.1
  obtain ⟨⟨t1, t2, t3, t4⟩, tn⟩ := h.2.2.1
  obtain ⟨⟨hW, hWT, hKW, rk, hrk⟩, hD, hB⟩ := h.2.2.2.1
  obtain ⟨hH, hWS⟩ := h.2.2.2.2.2.1
  refine SY.chg h hr (c_X_free hS hR hV hV2 (by omega) hW hWT hKW hrk hD  (by omega)) (fun K R' hp he => ?_) (fun v e => ⟨w_free h.2.2.2.1.1, by rw [f3_free]; omega⟩) (fun j e => n_free e)
  obtain ⟨⟨hS', hR', hN', h7'⟩, ⟨⟨hT', hTn'⟩, -, ⟨hV', hV2'⟩, -, -⟩, ⟨h11, -, -⟩, ⟨hW', hWT', hKW', rk', hrk'⟩, hWS'⟩ := hp
  obtain ⟨e2, ⟨eK, eF, eC, eG⟩, ⟨e7, e8, e0⟩, ⟨e11, e3⟩, e4, e5⟩ := he
  have q : Mt mi_M_free 1100 0 0 [.ref 761, .int x1] (K, R', L, sh, N) _ := c_M_free hS' hR' hT' hTn' hV' hk1 (by omega) hW' hrk'  (by omega)
  rw [e2] at q
  exact q
theorem s_needs {n tp nt nk nP nF nS kA fA cA gA : Nat} {I : Nat → Nat → Int32} {R : Nat → Nat → Option Nat} {L : Nat → Nat → Int64} {sh : Nat → Nat × Nat} {N : Nat} (h : IVC n tp nt nk nP nF nS kA fA cA gA I R L sh N) (hr : RFS I) (hn : n ≤ 512) {x1 : Int32} {x2 : Int32} {x3 : Int32} : SY mi_X_needs mi_M_needs n (I, R, L, sh, N) [.ref 0, .int x1, .int x2, .int x3] [.ref 761, .int x1, .int x2, .int x3] := by
  obtain ⟨hS, hR, hN, h7⟩ := h.1
  obtain ⟨⟨hT, hTn⟩, hTd, ⟨hV, hV2⟩, ⟨hk1, hk2, hk3⟩, h9⟩ := h.2.1
  obtain ⟨⟨t1, t2, t3, t4⟩, tn⟩ := h.2.2.1
  obtain ⟨⟨hW, hWT, hKW, rk, hrk⟩, hD, hB⟩ := h.2.2.2.1
  obtain ⟨hH, hWS⟩ := h.2.2.2.2.2.1
  refine SY.chg h hr (c_X_needs hS hR hV hV2 (by omega) hW hWT hKW hrk hD  (by omega)) (fun K R' hp he => ?_) (fun v e => ⟨w_needs h.2.2.2.1.1, by rw [f3_needs]; omega⟩) (fun j e => n_needs e)
  obtain ⟨⟨hS', hR', hN', h7'⟩, ⟨⟨hT', hTn'⟩, -, ⟨hV', hV2'⟩, -, -⟩, ⟨h11, -, -⟩, ⟨hW', hWT', hKW', rk', hrk'⟩, hWS'⟩ := hp
  obtain ⟨e2, ⟨eK, eF, eC, eG⟩, ⟨e7, e8, e0⟩, ⟨e11, e3⟩, e4, e5⟩ := he
  have q : Mt mi_M_needs 1100 0 0 [.ref 761, .int x1, .int x2, .int x3] (K, R', L, sh, N) _ := c_M_needs hS' hR' hT' hTn' hV' hk1 (by omega) hW' hrk'  (by omega)
  rw [e2] at q
  exact q
theorem s_override {n tp nt nk nP nF nS kA fA cA gA : Nat} {I : Nat → Nat → Int32} {R : Nat → Nat → Option Nat} {L : Nat → Nat → Int64} {sh : Nat → Nat × Nat} {N : Nat} (h : IVC n tp nt nk nP nF nS kA fA cA gA I R L sh N) (hr : RFS I) (hn : n ≤ 512) {x1 : Int32} {x2 : Int32} {x3 : Int32} : SY mi_X_override mi_M_override n (I, R, L, sh, N) [.ref 0, .int x1, .int x2, .int x3] [.ref 761, .int x1, .int x2, .int x3] := by
  obtain ⟨hS, hR, hN, h7⟩ := h.1
  obtain ⟨⟨hT, hTn⟩, hTd, ⟨hV, hV2⟩, ⟨hk1, hk2, hk3⟩, h9⟩ := h.2.1
  obtain ⟨⟨t1, t2, t3, t4⟩, tn⟩ := h.2.2.1
  obtain ⟨⟨hW, hWT, hKW, rk, hrk⟩, hD, hB⟩ := h.2.2.2.1
  obtain ⟨hH, hWS⟩ := h.2.2.2.2.2.1
  refine SY.chg h hr (c_X_override hS hR hV hV2 (by omega) hW hWT hKW hrk hD  (by omega)) (fun K R' hp he => ?_) (fun v e => ⟨w_override h.2.2.2.1.1, by rw [f3_override]; omega⟩) (fun j e => n_override e)
  obtain ⟨⟨hS', hR', hN', h7'⟩, ⟨⟨hT', hTn'⟩, -, ⟨hV', hV2'⟩, -, -⟩, ⟨h11, -, -⟩, ⟨hW', hWT', hKW', rk', hrk'⟩, hWS'⟩ := hp
  obtain ⟨e2, ⟨eK, eF, eC, eG⟩, ⟨e7, e8, e0⟩, ⟨e11, e3⟩, e4, e5⟩ := he
  have q : Mt mi_M_override 1100 0 0 [.ref 761, .int x1, .int x2, .int x3] (K, R', L, sh, N) _ := c_M_override hS' hR' hT' hTn' hV' hk1 (by omega) hW' hrk'  (by omega)
  rw [e2] at q
  exact q
theorem s_layer {n tp nt nk nP nF nS kA fA cA gA : Nat} {I : Nat → Nat → Int32} {R : Nat → Nat → Option Nat} {L : Nat → Nat → Int64} {sh : Nat → Nat × Nat} {N : Nat} (h : IVC n tp nt nk nP nF nS kA fA cA gA I R L sh N) (hr : RFS I) (hn : n ≤ 512) {x1 : Int32} {x2 : Int32} {x3 : Int32} {x4 : Int32} : SY mi_X_layer mi_M_layer n (I, R, L, sh, N) [.ref 0, .int x1, .int x2, .int x3, .int x4] [.ref 761, .int x1, .int x2, .int x3, .int x4] := by
  obtain ⟨hS, hR, hN, h7⟩ := h.1
  obtain ⟨⟨hT, hTn⟩, hTd, ⟨hV, hV2⟩, ⟨hk1, hk2, hk3⟩, h9⟩ := h.2.1
  obtain ⟨⟨t1, t2, t3, t4⟩, tn⟩ := h.2.2.1
  obtain ⟨⟨hW, hWT, hKW, rk, hrk⟩, hD, hB⟩ := h.2.2.2.1
  obtain ⟨hH, hWS⟩ := h.2.2.2.2.2.1
  refine SY.chg h hr (c_X_layer hS hR hV hV2 (by omega) hW hWT hKW hrk hD  (by omega)) (fun K R' hp he => ?_) (fun v e => ⟨w_layer h.2.2.2.1.1, by rw [f3_layer]; omega⟩) (fun j e => n_layer e)
  obtain ⟨⟨hS', hR', hN', h7'⟩, ⟨⟨hT', hTn'⟩, -, ⟨hV', hV2'⟩, -, -⟩, ⟨h11, -, -⟩, ⟨hW', hWT', hKW', rk', hrk'⟩, hWS'⟩ := hp
  obtain ⟨e2, ⟨eK, eF, eC, eG⟩, ⟨e7, e8, e0⟩, ⟨e11, e3⟩, e4, e5⟩ := he
  have q : Mt mi_M_layer 1100 0 0 [.ref 761, .int x1, .int x2, .int x3, .int x4] (K, R', L, sh, N) _ := c_M_layer hS' hR' hT' hTn' hV' hk1 (by omega) hW' hrk'  (by omega)
  rw [e2] at q
  exact q
theorem s_forget {n tp nt nk nP nF nS kA fA cA gA : Nat} {I : Nat → Nat → Int32} {R : Nat → Nat → Option Nat} {L : Nat → Nat → Int64} {sh : Nat → Nat × Nat} {N : Nat} (h : IVC n tp nt nk nP nF nS kA fA cA gA I R L sh N) (hr : RFS I) (hn : n ≤ 512) {x1 : Int32} : SY mi_X_forget mi_M_forget n (I, R, L, sh, N) [.ref 0, .int x1] [.ref 761, .int x1] := by
  obtain ⟨hS, hR, hN, h7⟩ := h.1
  obtain ⟨⟨hT, hTn⟩, hTd, ⟨hV, hV2⟩, ⟨hk1, hk2, hk3⟩, h9⟩ := h.2.1
  obtain ⟨⟨t1, t2, t3, t4⟩, tn⟩ := h.2.2.1
  obtain ⟨⟨hW, hWT, hKW, rk, hrk⟩, hD, hB⟩ := h.2.2.2.1
  obtain ⟨hH, hWS⟩ := h.2.2.2.2.2.1
  refine SY.chg h hr (c_X_forget hS hR hV hV2 (by omega) hW hWT hKW hrk hD  (by omega)) (fun K R' hp he => ?_) (fun v e => ⟨w_forget h.2.2.2.1.1, by rw [f3_forget]; omega⟩) (fun j e => n_forget e)
  obtain ⟨⟨hS', hR', hN', h7'⟩, ⟨⟨hT', hTn'⟩, -, ⟨hV', hV2'⟩, -, -⟩, ⟨h11, -, -⟩, ⟨hW', hWT', hKW', rk', hrk'⟩, hWS'⟩ := hp
  obtain ⟨e2, ⟨eK, eF, eC, eG⟩, ⟨e7, e8, e0⟩, ⟨e11, e3⟩, e4, e5⟩ := he
  have q : Mt mi_M_forget 1100 0 0 [.ref 761, .int x1] (K, R', L, sh, N) _ := c_M_forget hS' hR' hT' hTn' hV' hk1 (by omega) hW' hrk'  (by omega)
  rw [e2] at q
  exact q
theorem s_seed {n tp nt nk nP nF nS kA fA cA gA : Nat} {I : Nat → Nat → Int32} {R : Nat → Nat → Option Nat} {L : Nat → Nat → Int64} {sh : Nat → Nat × Nat} {N : Nat} (h : IVC n tp nt nk nP nF nS kA fA cA gA I R L sh N) (hr : RFS I) (hn : n ≤ 512) {x1 : Int32} : SY mi_X_seed mi_M_seed n (I, R, L, sh, N) [.ref 0, .int x1] [.ref 761, .int x1] := by
  obtain ⟨hS, hR, hN, h7⟩ := h.1
  obtain ⟨⟨hT, hTn⟩, hTd, ⟨hV, hV2⟩, ⟨hk1, hk2, hk3⟩, h9⟩ := h.2.1
  obtain ⟨⟨t1, t2, t3, t4⟩, tn⟩ := h.2.2.1
  obtain ⟨⟨hW, hWT, hKW, rk, hrk⟩, hD, hB⟩ := h.2.2.2.1
  obtain ⟨hH, hWS⟩ := h.2.2.2.2.2.1
  refine SY.chg h hr (c_X_seed hS hR hV hV2 (by omega) hW hWT hKW hrk hD  (by omega)) (fun K R' hp he => ?_) (fun v e => ⟨w_seed h.2.2.2.1.1, by rw [f3_seed]; omega⟩) (fun j e => by cases e)
  obtain ⟨⟨hS', hR', hN', h7'⟩, ⟨⟨hT', hTn'⟩, -, ⟨hV', hV2'⟩, -, -⟩, ⟨h11, -, -⟩, ⟨hW', hWT', hKW', rk', hrk'⟩, hWS'⟩ := hp
  obtain ⟨e2, ⟨eK, eF, eC, eG⟩, ⟨e7, e8, e0⟩, ⟨e11, e3⟩, e4, e5⟩ := he
  have q : Mt mi_M_seed 1100 0 0 [.ref 761, .int x1] (K, R', L, sh, N) _ := c_M_seed hS' hR' hT' hTn' hV' hk1 (by omega) hW' hrk'  (by omega)
  rw [e2] at q
  exact q
theorem s_ask {n tp nt nk nP nF nS kA fA cA gA : Nat} {I : Nat → Nat → Int32} {R : Nat → Nat → Option Nat} {L : Nat → Nat → Int64} {sh : Nat → Nat × Nat} {N : Nat} (h : IVC n tp nt nk nP nF nS kA fA cA gA I R L sh N) (hr : RFS I) (hn : n ≤ 512) {x1 : Int32} {x2 : Int32} : SY mi_X_ask mi_M_ask n (I, R, L, sh, N) [.ref 0, .int x1, .int x2] [.ref 761, .int x1, .int x2] := by
  obtain ⟨hS, hR, hN, h7⟩ := h.1
  obtain ⟨⟨hT, hTn⟩, hTd, ⟨hV, hV2⟩, ⟨hk1, hk2, hk3⟩, h9⟩ := h.2.1
  obtain ⟨⟨t1, t2, t3, t4⟩, tn⟩ := h.2.2.1
  obtain ⟨⟨hW, hWT, hKW, rk, hrk⟩, hD, hB⟩ := h.2.2.2.1
  obtain ⟨hH, hWS⟩ := h.2.2.2.2.2.1
  refine SY.chg h hr (c_X_ask hS hR hV hV2 (by omega) hW hWT hKW hrk hD  (by omega)) (fun K R' hp he => ?_) (fun v e => ⟨(w_ask h.2.2.2.1.1).1, by rw [(w_ask h.2.2.2.1.1).2]; omega⟩) (fun j e => n_ask e)
  obtain ⟨⟨hS', hR', hN', h7'⟩, ⟨⟨hT', hTn'⟩, -, ⟨hV', hV2'⟩, -, -⟩, ⟨h11, -, -⟩, ⟨hW', hWT', hKW', rk', hrk'⟩, hWS'⟩ := hp
  obtain ⟨e2, ⟨eK, eF, eC, eG⟩, ⟨e7, e8, e0⟩, ⟨e11, e3⟩, e4, e5⟩ := he
  have q : Mt mi_M_ask 1100 0 0 [.ref 761, .int x1, .int x2] (K, R', L, sh, N) _ := c_M_ask hS' hR' hT' hTn' hV' hk1 (by omega) hW' hrk'  (by omega)
  rw [PA_ANf, e2, eK, eF, eC, eG] at q
  exact q
theorem s_feature {n tp nt nk nP nF nS kA fA cA gA : Nat} {I : Nat → Nat → Int32} {R : Nat → Nat → Option Nat} {L : Nat → Nat → Int64} {sh : Nat → Nat × Nat} {N : Nat} (h : IVC n tp nt nk nP nF nS kA fA cA gA I R L sh N) (hr : RFS I) (hn : n ≤ 512) {x1 : Int32} : SY mi_X_feature mi_M_feature n (I, R, L, sh, N) [.ref 0, .int x1] [.ref 761, .int x1] := by
  obtain ⟨hS, hR, hN, h7⟩ := h.1
  obtain ⟨⟨hT, hTn⟩, hTd, ⟨hV, hV2⟩, ⟨hk1, hk2, hk3⟩, h9⟩ := h.2.1
  obtain ⟨⟨t1, t2, t3, t4⟩, tn⟩ := h.2.2.1
  obtain ⟨⟨hW, hWT, hKW, rk, hrk⟩, hD, hB⟩ := h.2.2.2.1
  obtain ⟨hH, hWS⟩ := h.2.2.2.2.2.1
  refine SY.chg h hr (c_X_feature hS hR hV hV2 (by omega) hW hWT hKW hrk hD  (by omega)) (fun K R' hp he => ?_) (fun v e => ⟨(w_feature h.2.2.2.1.1 e).1, by rw [(w_feature h.2.2.2.1.1 e).2]; omega⟩) (fun j e => n_feature e)
  obtain ⟨⟨hS', hR', hN', h7'⟩, ⟨⟨hT', hTn'⟩, -, ⟨hV', hV2'⟩, -, -⟩, ⟨h11, -, -⟩, ⟨hW', hWT', hKW', rk', hrk'⟩, hWS'⟩ := hp
  obtain ⟨e2, ⟨eK, eF, eC, eG⟩, ⟨e7, e8, e0⟩, ⟨e11, e3⟩, e4, e5⟩ := he
  have q : Mt mi_M_feature 1100 0 0 [.ref 761, .int x1] (K, R', L, sh, N) _ := c_M_feature hS' hR' hT' hTn' hV' hk1 (by omega) hW' hrk'  (by omega)
  rw [e2] at q
  exact q
theorem s_person {n tp nt nk nP nF nS kA fA cA gA : Nat} {I : Nat → Nat → Int32} {R : Nat → Nat → Option Nat} {L : Nat → Nat → Int64} {sh : Nat → Nat × Nat} {N : Nat} (h : IVC n tp nt nk nP nF nS kA fA cA gA I R L sh N) (hr : RFS I) (hn : n ≤ 512) {x1 : Int32} {x2 : Int32} : SY mi_X_person mi_M_person n (I, R, L, sh, N) [.ref 0, .int x1, .int x2] [.ref 761, .int x1, .int x2] := by
  obtain ⟨hS, hR, hN, h7⟩ := h.1
  obtain ⟨⟨hT, hTn⟩, hTd, ⟨hV, hV2⟩, ⟨hk1, hk2, hk3⟩, h9⟩ := h.2.1
  obtain ⟨⟨t1, t2, t3, t4⟩, tn⟩ := h.2.2.1
  obtain ⟨⟨hW, hWT, hKW, rk, hrk⟩, hD, hB⟩ := h.2.2.2.1
  obtain ⟨hH, hWS⟩ := h.2.2.2.2.2.1
  refine SY.chg h hr (c_X_person hS hR hV hV2 (by omega) hW hWT hKW hrk hD  (by omega)) (fun K R' hp he => ?_) (fun v e => ⟨(w_person h.2.2.2.1.1 e).1, by rw [(w_person h.2.2.2.1.1 e).2]; omega⟩) (fun j e => n_person e)
  obtain ⟨⟨hS', hR', hN', h7'⟩, ⟨⟨hT', hTn'⟩, -, ⟨hV', hV2'⟩, -, -⟩, ⟨h11, -, -⟩, ⟨hW', hWT', hKW', rk', hrk'⟩, hWS'⟩ := hp
  obtain ⟨e2, ⟨eK, eF, eC, eG⟩, ⟨e7, e8, e0⟩, ⟨e11, e3⟩, e4, e5⟩ := he
  have q : Mt mi_M_person 1100 0 0 [.ref 761, .int x1, .int x2] (K, R', L, sh, N) _ := c_M_person hS' hR' hT' hTn' hV' hk1 (by omega) hW' hrk'  (by omega)
  rw [e2] at q
  exact q
theorem s_gone {n tp nt nk nP nF nS kA fA cA gA : Nat} {I : Nat → Nat → Int32} {R : Nat → Nat → Option Nat} {L : Nat → Nat → Int64} {sh : Nat → Nat × Nat} {N : Nat} (h : IVC n tp nt nk nP nF nS kA fA cA gA I R L sh N) (hr : RFS I) (hn : n ≤ 512) {x1 : Int32} : SY mi_X_gone mi_M_gone n (I, R, L, sh, N) [.ref 0, .int x1] [.ref 761, .int x1] := by
  obtain ⟨hS, hR, hN, h7⟩ := h.1
  obtain ⟨⟨hT, hTn⟩, hTd, ⟨hV, hV2⟩, ⟨hk1, hk2, hk3⟩, h9⟩ := h.2.1
  obtain ⟨⟨t1, t2, t3, t4⟩, tn⟩ := h.2.2.1
  obtain ⟨⟨hW, hWT, hKW, rk, hrk⟩, hD, hB⟩ := h.2.2.2.1
  obtain ⟨hH, hWS⟩ := h.2.2.2.2.2.1
  refine SY.chg h hr (c_X_gone hS hR hV hV2 (by omega) hW hWT hKW hrk hD  (by omega)) (fun K R' hp he => ?_) (fun v e => ⟨(w_gone h.2.2.2.1.1 e).1, by rw [(w_gone h.2.2.2.1.1 e).2]; omega⟩) (fun j e => n_gone e)
  obtain ⟨⟨hS', hR', hN', h7'⟩, ⟨⟨hT', hTn'⟩, -, ⟨hV', hV2'⟩, -, -⟩, ⟨h11, -, -⟩, ⟨hW', hWT', hKW', rk', hrk'⟩, hWS'⟩ := hp
  obtain ⟨e2, ⟨eK, eF, eC, eG⟩, ⟨e7, e8, e0⟩, ⟨e11, e3⟩, e4, e5⟩ := he
  have q : Mt mi_M_gone 1100 0 0 [.ref 761, .int x1] (K, R', L, sh, N) _ := c_M_gone hS' hR' hT' hTn' hV' hk1 (by omega) hW' hrk'  (by omega)
  rw [e2] at q
  exact q
theorem s_step {n tp nt nk nP nF nS kA fA cA gA : Nat} {I : Nat → Nat → Int32} {R : Nat → Nat → Option Nat} {L : Nat → Nat → Int64} {sh : Nat → Nat × Nat} {N : Nat} (h : IVC n tp nt nk nP nF nS kA fA cA gA I R L sh N) (hr : RFS I) (hn : n ≤ 512) {x1 : Int32} {x2 : Int32} {x3 : Int32} {x4 : Int32} {x5 : Int32} : SY mi_X_step mi_M_step n (I, R, L, sh, N) [.ref 0, .int x1, .int x2, .int x3, .int x4, .int x5] [.ref 761, .int x1, .int x2, .int x3, .int x4, .int x5] := by
  obtain ⟨hS, hR, hN, h7⟩ := h.1
  obtain ⟨⟨hT, hTn⟩, hTd, ⟨hV, hV2⟩, ⟨hk1, hk2, hk3⟩, h9⟩ := h.2.1
  obtain ⟨⟨t1, t2, t3, t4⟩, tn⟩ := h.2.2.1
  obtain ⟨⟨hW, hWT, hKW, rk, hrk⟩, hD, hB⟩ := h.2.2.2.1
  obtain ⟨hH, hWS⟩ := h.2.2.2.2.2.1
  refine SY.chg h hr (c_X_step hS hR hV hV2 (by omega) hW hWT hKW hrk hD  (by omega)) (fun K R' hp he => ?_) (fun v e => ⟨(w_step h.2.2.2.1.1 e).1, by rw [(w_step h.2.2.2.1.1 e).2]; omega⟩) (fun j e => n_step e)
  obtain ⟨⟨hS', hR', hN', h7'⟩, ⟨⟨hT', hTn'⟩, -, ⟨hV', hV2'⟩, -, -⟩, ⟨h11, -, -⟩, ⟨hW', hWT', hKW', rk', hrk'⟩, hWS'⟩ := hp
  obtain ⟨e2, ⟨eK, eF, eC, eG⟩, ⟨e7, e8, e0⟩, ⟨e11, e3⟩, e4, e5⟩ := he
  have q : Mt mi_M_step 1100 0 0 [.ref 761, .int x1, .int x2, .int x3, .int x4, .int x5] (K, R', L, sh, N) _ := c_M_step hS' hR' hT' hTn' hV' hk1 (by omega) hW' hrk' (by rw [e2]; exact hWT.1) hWT.2.1 (by omega)
  rw [e2] at q
  exact q
theorem s_pass {n tp nt nk nP nF nS kA fA cA gA : Nat} {I : Nat → Nat → Int32} {R : Nat → Nat → Option Nat} {L : Nat → Nat → Int64} {sh : Nat → Nat × Nat} {N : Nat} (h : IVC n tp nt nk nP nF nS kA fA cA gA I R L sh N) (hr : RFS I) (hn : n ≤ 512) {x1 : Int32} : SY mi_X_pass mi_M_pass n (I, R, L, sh, N) [.ref 0, .int x1] [.ref 761, .int x1] := by
  obtain ⟨hS, hR, hN, h7⟩ := h.1
  obtain ⟨⟨hT, hTn⟩, hTd, ⟨hV, hV2⟩, ⟨hk1, hk2, hk3⟩, h9⟩ := h.2.1
  obtain ⟨⟨t1, t2, t3, t4⟩, tn⟩ := h.2.2.1
  obtain ⟨⟨hW, hWT, hKW, rk, hrk⟩, hD, hB⟩ := h.2.2.2.1
  obtain ⟨hH, hWS⟩ := h.2.2.2.2.2.1
  refine SY.chg h hr (c_X_pass hS hR hV hV2 (by omega) hW hWT hKW hrk hD  (by omega)) (fun K R' hp he => ?_) (fun v e => w_pass h.2.2.2.1.1 (by omega) e) (fun j e => n_pass e)
  obtain ⟨⟨hS', hR', hN', h7'⟩, ⟨⟨hT', hTn'⟩, -, ⟨hV', hV2'⟩, -, -⟩, ⟨h11, -, -⟩, ⟨hW', hWT', hKW', rk', hrk'⟩, hWS'⟩ := hp
  obtain ⟨e2, ⟨eK, eF, eC, eG⟩, ⟨e7, e8, e0⟩, ⟨e11, e3⟩, e4, e5⟩ := he
  have q : Mt mi_M_pass 1100 0 0 [.ref 761, .int x1] (K, R', L, sh, N) _ := c_M_pass hS' hR' hT' hTn' hV' hk1 (by omega) hW' hrk' hWT' (by omega)
  rw [e2] at q
  exact q
theorem s_days {n tp nt nk nP nF nS kA fA cA gA : Nat} {I : Nat → Nat → Int32} {R : Nat → Nat → Option Nat} {L : Nat → Nat → Int64} {sh : Nat → Nat × Nat} {N : Nat} (h : IVC n tp nt nk nP nF nS kA fA cA gA I R L sh N) (hr : RFS I) (hn : n ≤ 512) {x1 : Int32} : SY mi_X_days mi_M_days n (I, R, L, sh, N) [.ref 0, .int x1] [.ref 761, .int x1] := by
  obtain ⟨hS, hR, hN, h7⟩ := h.1
  obtain ⟨⟨hT, hTn⟩, hTd, ⟨hV, hV2⟩, ⟨hk1, hk2, hk3⟩, h9⟩ := h.2.1
  obtain ⟨⟨t1, t2, t3, t4⟩, tn⟩ := h.2.2.1
  obtain ⟨⟨hW, hWT, hKW, rk, hrk⟩, hD, hB⟩ := h.2.2.2.1
  obtain ⟨hH, hWS⟩ := h.2.2.2.2.2.1
  refine SY.chg h hr (c_X_days hS hR hV hV2 (by omega) hW hWT hKW hrk hD (by omega) (by omega)) (fun K R' hp he => ?_) (fun v e => w_days h.2.2.2.1.1 (by omega) e) (fun j e => n_days e)
  obtain ⟨⟨hS', hR', hN', h7'⟩, ⟨⟨hT', hTn'⟩, -, ⟨hV', hV2'⟩, -, -⟩, ⟨h11, -, -⟩, ⟨hW', hWT', hKW', rk', hrk'⟩, hWS'⟩ := hp
  obtain ⟨e2, ⟨eK, eF, eC, eG⟩, ⟨e7, e8, e0⟩, ⟨e11, e3⟩, e4, e5⟩ := he
  have q : Mt mi_M_days 1100 0 0 [.ref 761, .int x1] (K, R', L, sh, N) _ := c_M_days hS' hR' hT' hTn' hV' hk1 (by omega) hW' hrk' hWT' (by omega)
  rw [TRE_TRK, e2, eK, eF, eC, eG] at q
  exact q
