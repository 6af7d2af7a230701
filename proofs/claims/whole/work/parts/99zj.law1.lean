/-! THE LAW'S CALLS: those that ask -/
theorem PA_ANf {I : Nat → Nat → Int32} {kA fA cA gA : Nat} : PA I kA fA cA gA = AN (TRK (I kA) (I fA) (I cA) (I gA)) (I 762) := rfl
theorem TRE_TRK {I : Nat → Nat → Int32} {kA fA cA gA : Nat} : TRE I kA fA cA gA = TRK (I kA) (I fA) (I cA) (I gA) := rfl
theorem s_personOf {n tp nt nk nP nF nS kA fA cA gA : Nat} {I : Nat → Nat → Int32} {R : Nat → Nat → Option Nat} {L : Nat → Nat → Int64} {sh : Nat → Nat × Nat} {N : Nat} (h : IVC n tp nt nk nP nF nS kA fA cA gA I R L sh N) (hr : RFS I) (hn : n ≤ 512) {x1 : Int32} : SY mi_X_personOf mi_M_personOf n (I, R, L, sh, N) [.ref 0, .int x1] [.ref 761, .int x1] := by
  obtain ⟨hS, hR, hN, h7⟩ := h.1
  obtain ⟨⟨hT, hTn⟩, hTd, ⟨hV, hV2⟩, ⟨hk1, hk2, hk3⟩, h9⟩ := h.2.1
  obtain ⟨⟨t1, t2, t3, t4⟩, tn⟩ := h.2.2.1
  obtain ⟨⟨hW, hWT, hKW, rk, hrk⟩, hD, hB⟩ := h.2.2.2.1
  obtain ⟨hH, hWS⟩ := h.2.2.2.2.2.1
  refine SY.ask h hr (c_X_personOf hS hR hV hV2 (by omega) hW hWT hKW hrk hD  (by omega)) (fun K R' hp he => ?_)
  obtain ⟨⟨hS', hR', hN', h7'⟩, ⟨⟨hT', hTn'⟩, -, ⟨hV', hV2'⟩, -, -⟩, ⟨h11, -, -⟩, ⟨hW', hWT', hKW', rk', hrk'⟩, hWS'⟩ := hp
  obtain ⟨e2, ⟨eK, eF, eC, eG⟩, ⟨e7, e8, e0⟩, ⟨e11, e3⟩, e4, e5⟩ := he
  have q : Mt mi_M_personOf 1100 0 0 [.ref 761, .int x1] (K, R', L, sh, N) _ := c_M_personOf hS' hR' hT' hTn' hV' hk1 (by omega) hW' hrk'  (by omega)
  rw [e2] at q
  exact q
theorem s_attributes {n tp nt nk nP nF nS kA fA cA gA : Nat} {I : Nat → Nat → Int32} {R : Nat → Nat → Option Nat} {L : Nat → Nat → Int64} {sh : Nat → Nat × Nat} {N : Nat} (h : IVC n tp nt nk nP nF nS kA fA cA gA I R L sh N) (hr : RFS I) (hn : n ≤ 512) {x1 : Int32} : SY mi_X_attributes mi_M_attributes n (I, R, L, sh, N) [.ref 0, .int x1] [.ref 761, .int x1] := by
  obtain ⟨hS, hR, hN, h7⟩ := h.1
  obtain ⟨⟨hT, hTn⟩, hTd, ⟨hV, hV2⟩, ⟨hk1, hk2, hk3⟩, h9⟩ := h.2.1
  obtain ⟨⟨t1, t2, t3, t4⟩, tn⟩ := h.2.2.1
  obtain ⟨⟨hW, hWT, hKW, rk, hrk⟩, hD, hB⟩ := h.2.2.2.1
  obtain ⟨hH, hWS⟩ := h.2.2.2.2.2.1
  refine SY.ask h hr (c_X_attributes hS hR hV hV2 (by omega) hW hWT hKW hrk hD  (by omega)) (fun K R' hp he => ?_)
  obtain ⟨⟨hS', hR', hN', h7'⟩, ⟨⟨hT', hTn'⟩, -, ⟨hV', hV2'⟩, -, -⟩, ⟨h11, -, -⟩, ⟨hW', hWT', hKW', rk', hrk'⟩, hWS'⟩ := hp
  obtain ⟨e2, ⟨eK, eF, eC, eG⟩, ⟨e7, e8, e0⟩, ⟨e11, e3⟩, e4, e5⟩ := he
  have q : Mt mi_M_attributes 1100 0 0 [.ref 761, .int x1] (K, R', L, sh, N) _ := c_M_attributes hS' hR' hT' hTn' hV' hk1 (by omega) hW' hrk'  (by omega)
  rw [e2] at q
  exact q
theorem s_bucket {n tp nt nk nP nF nS kA fA cA gA : Nat} {I : Nat → Nat → Int32} {R : Nat → Nat → Option Nat} {L : Nat → Nat → Int64} {sh : Nat → Nat × Nat} {N : Nat} (h : IVC n tp nt nk nP nF nS kA fA cA gA I R L sh N) (hr : RFS I) (hn : n ≤ 512) {x1 : Int32} {x2 : Int32} : SY mi_X_bucket mi_M_bucket n (I, R, L, sh, N) [.ref 0, .int x1, .int x2] [.ref 761, .int x1, .int x2] := by
  obtain ⟨hS, hR, hN, h7⟩ := h.1
  obtain ⟨⟨hT, hTn⟩, hTd, ⟨hV, hV2⟩, ⟨hk1, hk2, hk3⟩, h9⟩ := h.2.1
  obtain ⟨⟨t1, t2, t3, t4⟩, tn⟩ := h.2.2.1
  obtain ⟨⟨hW, hWT, hKW, rk, hrk⟩, hD, hB⟩ := h.2.2.2.1
  obtain ⟨hH, hWS⟩ := h.2.2.2.2.2.1
  refine SY.ask h hr (c_X_bucket hS hR hV hV2 (by omega) hW hWT hKW hrk hD  (by omega)) (fun K R' hp he => ?_)
  obtain ⟨⟨hS', hR', hN', h7'⟩, ⟨⟨hT', hTn'⟩, -, ⟨hV', hV2'⟩, -, -⟩, ⟨h11, -, -⟩, ⟨hW', hWT', hKW', rk', hrk'⟩, hWS'⟩ := hp
  obtain ⟨e2, ⟨eK, eF, eC, eG⟩, ⟨e7, e8, e0⟩, ⟨e11, e3⟩, e4, e5⟩ := he
  have q : Mt mi_M_bucket 1100 0 0 [.ref 761, .int x1, .int x2] (K, R', L, sh, N) _ := c_M_bucket hS' hR' hT' hTn' hV' hk1 (by omega) hW' hrk'  (by omega)
  exact q
theorem s_would {n tp nt nk nP nF nS kA fA cA gA : Nat} {I : Nat → Nat → Int32} {R : Nat → Nat → Option Nat} {L : Nat → Nat → Int64} {sh : Nat → Nat × Nat} {N : Nat} (h : IVC n tp nt nk nP nF nS kA fA cA gA I R L sh N) (hr : RFS I) (hn : n ≤ 512) {x1 : Int32} {x2 : Int32} {x3 : Int32} : SY mi_X_would mi_M_would n (I, R, L, sh, N) [.ref 0, .int x1, .int x2, .int x3] [.ref 761, .int x1, .int x2, .int x3] := by
  obtain ⟨hS, hR, hN, h7⟩ := h.1
  obtain ⟨⟨hT, hTn⟩, hTd, ⟨hV, hV2⟩, ⟨hk1, hk2, hk3⟩, h9⟩ := h.2.1
  obtain ⟨⟨t1, t2, t3, t4⟩, tn⟩ := h.2.2.1
  obtain ⟨⟨hW, hWT, hKW, rk, hrk⟩, hD, hB⟩ := h.2.2.2.1
  obtain ⟨hH, hWS⟩ := h.2.2.2.2.2.1
  refine SY.ask h hr (c_X_would hS hR hV hV2 (by omega) hW hWT hKW hrk hD  (by omega)) (fun K R' hp he => ?_)
  obtain ⟨⟨hS', hR', hN', h7'⟩, ⟨⟨hT', hTn'⟩, -, ⟨hV', hV2'⟩, -, -⟩, ⟨h11, -, -⟩, ⟨hW', hWT', hKW', rk', hrk'⟩, hWS'⟩ := hp
  obtain ⟨e2, ⟨eK, eF, eC, eG⟩, ⟨e7, e8, e0⟩, ⟨e11, e3⟩, e4, e5⟩ := he
  have q : Mt mi_M_would 1100 0 0 [.ref 761, .int x1, .int x2, .int x3] (K, R', L, sh, N) _ := c_M_would hS' hR' hT' hTn' hV' hk1 (by omega) hW' hrk'  (by omega)
  rw [PA_ANf, e2, eK, eF, eC, eG] at q
  exact q
theorem s_path {n tp nt nk nP nF nS kA fA cA gA : Nat} {I : Nat → Nat → Int32} {R : Nat → Nat → Option Nat} {L : Nat → Nat → Int64} {sh : Nat → Nat × Nat} {N : Nat} (h : IVC n tp nt nk nP nF nS kA fA cA gA I R L sh N) (hr : RFS I) (hn : n ≤ 512) {x1 : Int32} {x2 : Int32} {x3 : Int32} {x4 : Int32} : SY mi_X_path mi_M_path n (I, R, L, sh, N) [.ref 0, .int x1, .int x2, .int x3, .int x4] [.ref 761, .int x1, .int x2, .int x3, .int x4] := by
  obtain ⟨hS, hR, hN, h7⟩ := h.1
  obtain ⟨⟨hT, hTn⟩, hTd, ⟨hV, hV2⟩, ⟨hk1, hk2, hk3⟩, h9⟩ := h.2.1
  obtain ⟨⟨t1, t2, t3, t4⟩, tn⟩ := h.2.2.1
  obtain ⟨⟨hW, hWT, hKW, rk, hrk⟩, hD, hB⟩ := h.2.2.2.1
  obtain ⟨hH, hWS⟩ := h.2.2.2.2.2.1
  refine SY.ask h hr (c_X_path hS hR hV hV2 (by omega) hW hWT hKW hrk hD  (by omega)) (fun K R' hp he => ?_)
  obtain ⟨⟨hS', hR', hN', h7'⟩, ⟨⟨hT', hTn'⟩, -, ⟨hV', hV2'⟩, -, -⟩, ⟨h11, -, -⟩, ⟨hW', hWT', hKW', rk', hrk'⟩, hWS'⟩ := hp
  obtain ⟨e2, ⟨eK, eF, eC, eG⟩, ⟨e7, e8, e0⟩, ⟨e11, e3⟩, e4, e5⟩ := he
  have q : Mt mi_M_path 1100 0 0 [.ref 761, .int x1, .int x2, .int x3, .int x4] (K, R', L, sh, N) _ := c_M_path hS' hR' hT' hTn' hV' hk1 (by omega) hW' hrk'  (by omega)
  rw [PA_ANf, e2, eK, eF, eC, eG] at q
  exact q
theorem s_reach {n tp nt nk nP nF nS kA fA cA gA : Nat} {I : Nat → Nat → Int32} {R : Nat → Nat → Option Nat} {L : Nat → Nat → Int64} {sh : Nat → Nat × Nat} {N : Nat} (h : IVC n tp nt nk nP nF nS kA fA cA gA I R L sh N) (hr : RFS I) (hn : n ≤ 512) {x1 : Int32} {x2 : Int32} : SY mi_X_reach mi_M_reach n (I, R, L, sh, N) [.ref 0, .int x1, .int x2] [.ref 761, .int x1, .int x2] := by
  obtain ⟨hS, hR, hN, h7⟩ := h.1
  obtain ⟨⟨hT, hTn⟩, hTd, ⟨hV, hV2⟩, ⟨hk1, hk2, hk3⟩, h9⟩ := h.2.1
  obtain ⟨⟨t1, t2, t3, t4⟩, tn⟩ := h.2.2.1
  obtain ⟨⟨hW, hWT, hKW, rk, hrk⟩, hD, hB⟩ := h.2.2.2.1
  obtain ⟨hH, hWS⟩ := h.2.2.2.2.2.1
  refine SY.ask h hr (c_X_reach hS hR hV hV2 (by omega) hW hWT hKW hrk hD  (by omega)) (fun K R' hp he => ?_)
  obtain ⟨⟨hS', hR', hN', h7'⟩, ⟨⟨hT', hTn'⟩, -, ⟨hV', hV2'⟩, -, -⟩, ⟨h11, -, -⟩, ⟨hW', hWT', hKW', rk', hrk'⟩, hWS'⟩ := hp
  obtain ⟨e2, ⟨eK, eF, eC, eG⟩, ⟨e7, e8, e0⟩, ⟨e11, e3⟩, e4, e5⟩ := he
  have q : Mt mi_M_reach 1100 0 0 [.ref 761, .int x1, .int x2] (K, R', L, sh, N) _ := c_M_reach hS' hR' hT' hTn' hV' hk1 (by omega) hW' hrk'  (by omega)
  rw [PA_ANf, e2, eK, eF, eC, eG] at q
  exact q
theorem s_counted {n tp nt nk nP nF nS kA fA cA gA : Nat} {I : Nat → Nat → Int32} {R : Nat → Nat → Option Nat} {L : Nat → Nat → Int64} {sh : Nat → Nat × Nat} {N : Nat} (h : IVC n tp nt nk nP nF nS kA fA cA gA I R L sh N) (hr : RFS I) (hn : n ≤ 512) {x1 : Int32} {x2 : Int32} : SY mi_X_counted mi_M_counted n (I, R, L, sh, N) [.ref 0, .int x1, .int x2] [.ref 761, .int x1, .int x2] := by
  obtain ⟨hS, hR, hN, h7⟩ := h.1
  obtain ⟨⟨hT, hTn⟩, hTd, ⟨hV, hV2⟩, ⟨hk1, hk2, hk3⟩, h9⟩ := h.2.1
  obtain ⟨⟨t1, t2, t3, t4⟩, tn⟩ := h.2.2.1
  obtain ⟨⟨hW, hWT, hKW, rk, hrk⟩, hD, hB⟩ := h.2.2.2.1
  obtain ⟨hH, hWS⟩ := h.2.2.2.2.2.1
  refine SY.ask h hr (c_X_counted hS hR hV hV2 (by omega) hW hWT hKW hrk hD  (by omega)) (fun K R' hp he => ?_)
  obtain ⟨⟨hS', hR', hN', h7'⟩, ⟨⟨hT', hTn'⟩, -, ⟨hV', hV2'⟩, -, -⟩, ⟨h11, -, -⟩, ⟨hW', hWT', hKW', rk', hrk'⟩, hWS'⟩ := hp
  obtain ⟨e2, ⟨eK, eF, eC, eG⟩, ⟨e7, e8, e0⟩, ⟨e11, e3⟩, e4, e5⟩ := he
  have q : Mt mi_M_counted 1100 0 0 [.ref 761, .int x1, .int x2] (K, R', L, sh, N) _ := c_M_counted hS' hR' hT' hTn' hV' hk1 (by omega) hW' hrk'  (by omega)
  rw [e2] at q
  exact q
theorem s_by {n tp nt nk nP nF nS kA fA cA gA : Nat} {I : Nat → Nat → Int32} {R : Nat → Nat → Option Nat} {L : Nat → Nat → Int64} {sh : Nat → Nat × Nat} {N : Nat} (h : IVC n tp nt nk nP nF nS kA fA cA gA I R L sh N) (hr : RFS I) (hn : n ≤ 512) {x1 : Int32} {x2 : Int32} : SY mi_X_by mi_M_by n (I, R, L, sh, N) [.ref 0, .int x1, .int x2] [.ref 761, .int x1, .int x2] := by
  obtain ⟨hS, hR, hN, h7⟩ := h.1
  obtain ⟨⟨hT, hTn⟩, hTd, ⟨hV, hV2⟩, ⟨hk1, hk2, hk3⟩, h9⟩ := h.2.1
  obtain ⟨⟨t1, t2, t3, t4⟩, tn⟩ := h.2.2.1
  obtain ⟨⟨hW, hWT, hKW, rk, hrk⟩, hD, hB⟩ := h.2.2.2.1
  obtain ⟨hH, hWS⟩ := h.2.2.2.2.2.1
  refine SY.ask h hr (c_X_by hS hR hV hV2 (by omega) hW hWT hKW hrk hD  (by omega)) (fun K R' hp he => ?_)
  obtain ⟨⟨hS', hR', hN', h7'⟩, ⟨⟨hT', hTn'⟩, -, ⟨hV', hV2'⟩, -, -⟩, ⟨h11, -, -⟩, ⟨hW', hWT', hKW', rk', hrk'⟩, hWS'⟩ := hp
  obtain ⟨e2, ⟨eK, eF, eC, eG⟩, ⟨e7, e8, e0⟩, ⟨e11, e3⟩, e4, e5⟩ := he
  have q : Mt mi_M_by 1100 0 0 [.ref 761, .int x1, .int x2] (K, R', L, sh, N) _ := c_M_by hS' hR' hT' hTn' hV' hk1 (by omega) hW' hrk'  (by omega)
  rw [PA_ANf, e2, eK, eF, eC, eG] at q
  exact q
theorem s_so {n tp nt nk nP nF nS kA fA cA gA : Nat} {I : Nat → Nat → Int32} {R : Nat → Nat → Option Nat} {L : Nat → Nat → Int64} {sh : Nat → Nat × Nat} {N : Nat} (h : IVC n tp nt nk nP nF nS kA fA cA gA I R L sh N) (hr : RFS I) (hn : n ≤ 512) {x1 : Int32} {x2 : Int32} : SY mi_X_so mi_M_so n (I, R, L, sh, N) [.ref 0, .int x1, .int x2] [.ref 761, .int x1, .int x2] := by
  obtain ⟨hS, hR, hN, h7⟩ := h.1
  obtain ⟨⟨hT, hTn⟩, hTd, ⟨hV, hV2⟩, ⟨hk1, hk2, hk3⟩, h9⟩ := h.2.1
  obtain ⟨⟨t1, t2, t3, t4⟩, tn⟩ := h.2.2.1
  obtain ⟨⟨hW, hWT, hKW, rk, hrk⟩, hD, hB⟩ := h.2.2.2.1
  obtain ⟨hH, hWS⟩ := h.2.2.2.2.2.1
  refine SY.ask h hr (c_X_so hS hR hV hV2 (by omega) hW hWT hKW hrk hD  (by omega)) (fun K R' hp he => ?_)
  obtain ⟨⟨hS', hR', hN', h7'⟩, ⟨⟨hT', hTn'⟩, -, ⟨hV', hV2'⟩, -, -⟩, ⟨h11, -, -⟩, ⟨hW', hWT', hKW', rk', hrk'⟩, hWS'⟩ := hp
  obtain ⟨e2, ⟨eK, eF, eC, eG⟩, ⟨e7, e8, e0⟩, ⟨e11, e3⟩, e4, e5⟩ := he
  have q : Mt mi_M_so 1100 0 0 [.ref 761, .int x1, .int x2] (K, R', L, sh, N) _ := c_M_so hS' hR' hT' hTn' hV' hk1 (by omega) hW' hrk'  (by omega)
  rw [e2, eK, eF, eC, eG] at q
  exact q
theorem s_grow {n tp nt nk nP nF nS kA fA cA gA : Nat} {I : Nat → Nat → Int32} {R : Nat → Nat → Option Nat} {L : Nat → Nat → Int64} {sh : Nat → Nat × Nat} {N : Nat} (h : IVC n tp nt nk nP nF nS kA fA cA gA I R L sh N) (hr : RFS I) (hn : n ≤ 512) {x1 : Int32} {x2 : Int32} {x3 : Int32} {x4 : Int32} : SY mi_X_grow mi_M_grow n (I, R, L, sh, N) [.ref 0, .int x1, .int x2, .int x3, .int x4] [.ref 761, .int x1, .int x2, .int x3, .int x4] := by
  obtain ⟨hS, hR, hN, h7⟩ := h.1
  obtain ⟨⟨hT, hTn⟩, hTd, ⟨hV, hV2⟩, ⟨hk1, hk2, hk3⟩, h9⟩ := h.2.1
  obtain ⟨⟨t1, t2, t3, t4⟩, tn⟩ := h.2.2.1
  obtain ⟨⟨hW, hWT, hKW, rk, hrk⟩, hD, hB⟩ := h.2.2.2.1
  obtain ⟨hH, hWS⟩ := h.2.2.2.2.2.1
  refine SY.ask h hr (c_X_grow hS hR hV hV2 (by omega) hW hWT hKW hrk hD  (by omega)) (fun K R' hp he => ?_)
  obtain ⟨⟨hS', hR', hN', h7'⟩, ⟨⟨hT', hTn'⟩, -, ⟨hV', hV2'⟩, -, -⟩, ⟨h11, -, -⟩, ⟨hW', hWT', hKW', rk', hrk'⟩, hWS'⟩ := hp
  obtain ⟨e2, ⟨eK, eF, eC, eG⟩, ⟨e7, e8, e0⟩, ⟨e11, e3⟩, e4, e5⟩ := he
  have q : Mt mi_M_grow 1100 0 0 [.ref 761, .int x1, .int x2, .int x3, .int x4] (K, R', L, sh, N) _ := c_M_grow hS' hR' hT' hTn' hV' hk1 (by omega) hW' hrk'  (by omega)
  rw [TRE_TRK, e2, eK, eF, eC, eG] at q
  exact q
theorem s_moved {n tp nt nk nP nF nS kA fA cA gA : Nat} {I : Nat → Nat → Int32} {R : Nat → Nat → Option Nat} {L : Nat → Nat → Int64} {sh : Nat → Nat × Nat} {N : Nat} (h : IVC n tp nt nk nP nF nS kA fA cA gA I R L sh N) (hr : RFS I) (hn : n ≤ 512) {x1 : Int32} {x2 : Int32} {x3 : Int32} {x4 : Int32} : SY mi_X_moved mi_M_moved n (I, R, L, sh, N) [.ref 0, .int x1, .int x2, .int x3, .int x4] [.ref 761, .int x1, .int x2, .int x3, .int x4] := by
  obtain ⟨hS, hR, hN, h7⟩ := h.1
  obtain ⟨⟨hT, hTn⟩, hTd, ⟨hV, hV2⟩, ⟨hk1, hk2, hk3⟩, h9⟩ := h.2.1
  obtain ⟨⟨t1, t2, t3, t4⟩, tn⟩ := h.2.2.1
  obtain ⟨⟨hW, hWT, hKW, rk, hrk⟩, hD, hB⟩ := h.2.2.2.1
  obtain ⟨hH, hWS⟩ := h.2.2.2.2.2.1
  refine SY.ask h hr (c_X_moved hS hR hV hV2 (by omega) hW hWT hKW hrk hD  (by omega)) (fun K R' hp he => ?_)
  obtain ⟨⟨hS', hR', hN', h7'⟩, ⟨⟨hT', hTn'⟩, -, ⟨hV', hV2'⟩, -, -⟩, ⟨h11, -, -⟩, ⟨hW', hWT', hKW', rk', hrk'⟩, hWS'⟩ := hp
  obtain ⟨e2, ⟨eK, eF, eC, eG⟩, ⟨e7, e8, e0⟩, ⟨e11, e3⟩, e4, e5⟩ := he
  have q : Mt mi_M_moved 1100 0 0 [.ref 761, .int x1, .int x2, .int x3, .int x4] (K, R', L, sh, N) _ := c_M_moved hS' hR' hT' hTn' hV' hk1 (by omega) hW' hrk'  (by omega)
  rw [TRE_TRK, e2, eK, eF, eC, eG] at q
  exact q
theorem s_shakes {n tp nt nk nP nF nS kA fA cA gA : Nat} {I : Nat → Nat → Int32} {R : Nat → Nat → Option Nat} {L : Nat → Nat → Int64} {sh : Nat → Nat × Nat} {N : Nat} (h : IVC n tp nt nk nP nF nS kA fA cA gA I R L sh N) (hr : RFS I) (hn : n ≤ 512) {x1 : Int32} : SY mi_X_shakes mi_M_shakes n (I, R, L, sh, N) [.ref 0, .int x1] [.ref 761, .int x1] := by
  obtain ⟨hS, hR, hN, h7⟩ := h.1
  obtain ⟨⟨hT, hTn⟩, hTd, ⟨hV, hV2⟩, ⟨hk1, hk2, hk3⟩, h9⟩ := h.2.1
  obtain ⟨⟨t1, t2, t3, t4⟩, tn⟩ := h.2.2.1
  obtain ⟨⟨hW, hWT, hKW, rk, hrk⟩, hD, hB⟩ := h.2.2.2.1
  obtain ⟨hH, hWS⟩ := h.2.2.2.2.2.1
  refine SY.ask h hr (c_X_shakes hS hR hV hV2 (by omega) hW hWT hKW hrk hD  (by omega)) (fun K R' hp he => ?_)
  obtain ⟨⟨hS', hR', hN', h7'⟩, ⟨⟨hT', hTn'⟩, -, ⟨hV', hV2'⟩, -, -⟩, ⟨h11, -, -⟩, ⟨hW', hWT', hKW', rk', hrk'⟩, hWS'⟩ := hp
  obtain ⟨e2, ⟨eK, eF, eC, eG⟩, ⟨e7, e8, e0⟩, ⟨e11, e3⟩, e4, e5⟩ := he
  have q : Mt mi_M_shakes 1100 0 0 [.ref 761, .int x1] (K, R', L, sh, N) _ := c_M_shakes hS' hR' hT' hTn' hV' hk1 (by omega) hW' hrk'  (by omega)
  rw [TRE_TRK, e2, eK, eF, eC, eG] at q
  exact q
theorem s_overlap {n tp nt nk nP nF nS kA fA cA gA : Nat} {I : Nat → Nat → Int32} {R : Nat → Nat → Option Nat} {L : Nat → Nat → Int64} {sh : Nat → Nat × Nat} {N : Nat} (h : IVC n tp nt nk nP nF nS kA fA cA gA I R L sh N) (hr : RFS I) (hn : n ≤ 512) {x1 : Int32} {x2 : Int32} : SY mi_X_overlap mi_M_overlap n (I, R, L, sh, N) [.ref 0, .int x1, .int x2] [.ref 761, .int x1, .int x2] := by
  obtain ⟨hS, hR, hN, h7⟩ := h.1
  obtain ⟨⟨hT, hTn⟩, hTd, ⟨hV, hV2⟩, ⟨hk1, hk2, hk3⟩, h9⟩ := h.2.1
  obtain ⟨⟨t1, t2, t3, t4⟩, tn⟩ := h.2.2.1
  obtain ⟨⟨hW, hWT, hKW, rk, hrk⟩, hD, hB⟩ := h.2.2.2.1
  obtain ⟨hH, hWS⟩ := h.2.2.2.2.2.1
  refine SY.ask h hr (c_X_overlap hS hR hV hV2 (by omega) hW hWT hKW hrk hD  (by omega)) (fun K R' hp he => ?_)
  obtain ⟨⟨hS', hR', hN', h7'⟩, ⟨⟨hT', hTn'⟩, -, ⟨hV', hV2'⟩, -, -⟩, ⟨h11, -, -⟩, ⟨hW', hWT', hKW', rk', hrk'⟩, hWS'⟩ := hp
  obtain ⟨e2, ⟨eK, eF, eC, eG⟩, ⟨e7, e8, e0⟩, ⟨e11, e3⟩, e4, e5⟩ := he
  have q : Mt mi_M_overlap 1100 0 0 [.ref 761, .int x1, .int x2] (K, R', L, sh, N) _ := c_M_overlap hS' hR' hT' hTn' hV' hk1 (by omega) hW' hrk'  (by omega)
  rw [PA_ANf, e2, eK, eF, eC, eG] at q
  exact q
theorem s_needed {n tp nt nk nP nF nS kA fA cA gA : Nat} {I : Nat → Nat → Int32} {R : Nat → Nat → Option Nat} {L : Nat → Nat → Int64} {sh : Nat → Nat × Nat} {N : Nat} (h : IVC n tp nt nk nP nF nS kA fA cA gA I R L sh N) (hr : RFS I) (hn : n ≤ 512) {x1 : Int32} : SY mi_X_needed mi_M_needed n (I, R, L, sh, N) [.ref 0, .int x1] [.ref 761, .int x1] := by
  obtain ⟨hS, hR, hN, h7⟩ := h.1
  obtain ⟨⟨hT, hTn⟩, hTd, ⟨hV, hV2⟩, ⟨hk1, hk2, hk3⟩, h9⟩ := h.2.1
  obtain ⟨⟨t1, t2, t3, t4⟩, tn⟩ := h.2.2.1
  obtain ⟨⟨hW, hWT, hKW, rk, hrk⟩, hD, hB⟩ := h.2.2.2.1
  obtain ⟨hH, hWS⟩ := h.2.2.2.2.2.1
  refine SY.ask h hr (c_X_needed hS hR hV hV2 (by omega) hW hWT hKW hrk hD  (by omega)) (fun K R' hp he => ?_)
  obtain ⟨⟨hS', hR', hN', h7'⟩, ⟨⟨hT', hTn'⟩, -, ⟨hV', hV2'⟩, -, -⟩, ⟨h11, -, -⟩, ⟨hW', hWT', hKW', rk', hrk'⟩, hWS'⟩ := hp
  obtain ⟨e2, ⟨eK, eF, eC, eG⟩, ⟨e7, e8, e0⟩, ⟨e11, e3⟩, e4, e5⟩ := he
  have q : Mt mi_M_needed 1100 0 0 [.ref 761, .int x1] (K, R', L, sh, N) _ := c_M_needed hS' hR' hT' hTn' hV' hk1 (by omega) hW' hrk'  (by omega)
  rw [e2] at q
  exact q
theorem s_kept {n tp nt nk nP nF nS kA fA cA gA : Nat} {I : Nat → Nat → Int32} {R : Nat → Nat → Option Nat} {L : Nat → Nat → Int64} {sh : Nat → Nat × Nat} {N : Nat} (h : IVC n tp nt nk nP nF nS kA fA cA gA I R L sh N) (hr : RFS I) (hn : n ≤ 512) {x1 : Int32} {x2 : Int32} : SY mi_X_kept mi_M_kept n (I, R, L, sh, N) [.ref 0, .int x1, .int x2] [.ref 761, .int x1, .int x2] := by
  obtain ⟨hS, hR, hN, h7⟩ := h.1
  obtain ⟨⟨hT, hTn⟩, hTd, ⟨hV, hV2⟩, ⟨hk1, hk2, hk3⟩, h9⟩ := h.2.1
  obtain ⟨⟨t1, t2, t3, t4⟩, tn⟩ := h.2.2.1
  obtain ⟨⟨hW, hWT, hKW, rk, hrk⟩, hD, hB⟩ := h.2.2.2.1
  obtain ⟨hH, hWS⟩ := h.2.2.2.2.2.1
  refine SY.ask h hr (c_X_kept hS hR hV hV2 (by omega) hW hWT hKW hrk hD  (by omega)) (fun K R' hp he => ?_)
  obtain ⟨⟨hS', hR', hN', h7'⟩, ⟨⟨hT', hTn'⟩, -, ⟨hV', hV2'⟩, -, -⟩, ⟨h11, -, -⟩, ⟨hW', hWT', hKW', rk', hrk'⟩, hWS'⟩ := hp
  obtain ⟨e2, ⟨eK, eF, eC, eG⟩, ⟨e7, e8, e0⟩, ⟨e11, e3⟩, e4, e5⟩ := he
  have q : Mt mi_M_kept 1100 0 0 [.ref 761, .int x1, .int x2] (K, R', L, sh, N) _ := c_M_kept hS' hR' hT' hTn' hV' hk1 (by omega) hW' hrk'  (by omega)
  rw [e2] at q
  exact q
theorem s_featureOf {n tp nt nk nP nF nS kA fA cA gA : Nat} {I : Nat → Nat → Int32} {R : Nat → Nat → Option Nat} {L : Nat → Nat → Int64} {sh : Nat → Nat × Nat} {N : Nat} (h : IVC n tp nt nk nP nF nS kA fA cA gA I R L sh N) (hr : RFS I) (hn : n ≤ 512) {x1 : Int32} {x2 : Int32} : SY mi_X_featureOf mi_M_featureOf n (I, R, L, sh, N) [.ref 0, .int x1, .int x2] [.ref 761, .int x1, .int x2] := by
  obtain ⟨hS, hR, hN, h7⟩ := h.1
  obtain ⟨⟨hT, hTn⟩, hTd, ⟨hV, hV2⟩, ⟨hk1, hk2, hk3⟩, h9⟩ := h.2.1
  obtain ⟨⟨t1, t2, t3, t4⟩, tn⟩ := h.2.2.1
  obtain ⟨⟨hW, hWT, hKW, rk, hrk⟩, hD, hB⟩ := h.2.2.2.1
  obtain ⟨hH, hWS⟩ := h.2.2.2.2.2.1
  refine SY.ask h hr (c_X_featureOf hS hR hV hV2 (by omega) hW hWT hKW hrk hD  (by omega)) (fun K R' hp he => ?_)
  obtain ⟨⟨hS', hR', hN', h7'⟩, ⟨⟨hT', hTn'⟩, -, ⟨hV', hV2'⟩, -, -⟩, ⟨h11, -, -⟩, ⟨hW', hWT', hKW', rk', hrk'⟩, hWS'⟩ := hp
  obtain ⟨e2, ⟨eK, eF, eC, eG⟩, ⟨e7, e8, e0⟩, ⟨e11, e3⟩, e4, e5⟩ := he
  have q : Mt mi_M_featureOf 1100 0 0 [.ref 761, .int x1, .int x2] (K, R', L, sh, N) _ := c_M_featureOf hS' hR' hT' hTn' hV' hk1 (by omega) hW' hrk'  (by omega)
  rw [e2] at q
  exact q
theorem s_later {n tp nt nk nP nF nS kA fA cA gA : Nat} {I : Nat → Nat → Int32} {R : Nat → Nat → Option Nat} {L : Nat → Nat → Int64} {sh : Nat → Nat × Nat} {N : Nat} (h : IVC n tp nt nk nP nF nS kA fA cA gA I R L sh N) (hr : RFS I) (hn : n ≤ 512) {x1 : Int32} {x2 : Int32} {x3 : Int32} : SY mi_X_later mi_M_later n (I, R, L, sh, N) [.ref 0, .int x1, .int x2, .int x3] [.ref 761, .int x1, .int x2, .int x3] := by
  obtain ⟨hS, hR, hN, h7⟩ := h.1
  obtain ⟨⟨hT, hTn⟩, hTd, ⟨hV, hV2⟩, ⟨hk1, hk2, hk3⟩, h9⟩ := h.2.1
  obtain ⟨⟨t1, t2, t3, t4⟩, tn⟩ := h.2.2.1
  obtain ⟨⟨hW, hWT, hKW, rk, hrk⟩, hD, hB⟩ := h.2.2.2.1
  obtain ⟨hH, hWS⟩ := h.2.2.2.2.2.1
  refine SY.ask h hr (c_X_later hS hR hV hV2 (by omega) hW hWT hKW hrk hD  (by omega)) (fun K R' hp he => ?_)
  obtain ⟨⟨hS', hR', hN', h7'⟩, ⟨⟨hT', hTn'⟩, -, ⟨hV', hV2'⟩, -, -⟩, ⟨h11, -, -⟩, ⟨hW', hWT', hKW', rk', hrk'⟩, hWS'⟩ := hp
  obtain ⟨e2, ⟨eK, eF, eC, eG⟩, ⟨e7, e8, e0⟩, ⟨e11, e3⟩, e4, e5⟩ := he
  have q : Mt mi_M_later 1100 0 0 [.ref 761, .int x1, .int x2, .int x3] (K, R', L, sh, N) _ := c_M_later hS' hR' hT' hTn' hV' hk1 (by omega) hW' hrk' hWT' (by omega)
  rw [TRE_TRK, e2, eK, eF, eC, eG] at q
  exact q
theorem s_judge {n tp nt nk nP nF nS kA fA cA gA : Nat} {I : Nat → Nat → Int32} {R : Nat → Nat → Option Nat} {L : Nat → Nat → Int64} {sh : Nat → Nat × Nat} {N : Nat} (h : IVC n tp nt nk nP nF nS kA fA cA gA I R L sh N) (hr : RFS I) (hn : n ≤ 512) {x1 : Int32} {x2 : Int32} {x3 : Int32} : SY mi_X_judge mi_M_judge n (I, R, L, sh, N) [.ref 0, .int x1, .int x2, .int x3] [.ref 761, .int x1, .int x2, .int x3] := by
  obtain ⟨hS, hR, hN, h7⟩ := h.1
  obtain ⟨⟨hT, hTn⟩, hTd, ⟨hV, hV2⟩, ⟨hk1, hk2, hk3⟩, h9⟩ := h.2.1
  obtain ⟨⟨t1, t2, t3, t4⟩, tn⟩ := h.2.2.1
  obtain ⟨⟨hW, hWT, hKW, rk, hrk⟩, hD, hB⟩ := h.2.2.2.1
  obtain ⟨hH, hWS⟩ := h.2.2.2.2.2.1
  refine SY.ask h hr (c_X_judge hS hR hV hV2 (by omega) hW hWT hKW hrk hD hH (by omega)) (fun K R' hp he => ?_)
  obtain ⟨⟨hS', hR', hN', h7'⟩, ⟨⟨hT', hTn'⟩, -, ⟨hV', hV2'⟩, -, -⟩, ⟨h11, -, -⟩, ⟨hW', hWT', hKW', rk', hrk'⟩, hWS'⟩ := hp
  obtain ⟨e2, ⟨eK, eF, eC, eG⟩, ⟨e7, e8, e0⟩, ⟨e11, e3⟩, e4, e5⟩ := he
  have q : Mt mi_M_judge 1100 0 0 [.ref 761, .int x1, .int x2, .int x3] (K, R', L, sh, N) _ := c_M_judge hS' hR' hT' hTn' hV' hk1 (by omega) hW' hrk' hWS' (by omega)
  rw [TRE_TRK, e2, eK, eF, eC, eG, e7, e8] at q
  exact q
theorem s_says {n tp nt nk nP nF nS kA fA cA gA : Nat} {I : Nat → Nat → Int32} {R : Nat → Nat → Option Nat} {L : Nat → Nat → Int64} {sh : Nat → Nat × Nat} {N : Nat} (h : IVC n tp nt nk nP nF nS kA fA cA gA I R L sh N) (hr : RFS I) (hn : n ≤ 512) {x1 : Int32} {x2 : Int32} : SY mi_X_says mi_M_says n (I, R, L, sh, N) [.ref 0, .int x1, .int x2] [.ref 761, .int x1, .int x2] := by
  obtain ⟨hS, hR, hN, h7⟩ := h.1
  obtain ⟨⟨hT, hTn⟩, hTd, ⟨hV, hV2⟩, ⟨hk1, hk2, hk3⟩, h9⟩ := h.2.1
  obtain ⟨⟨t1, t2, t3, t4⟩, tn⟩ := h.2.2.1
  obtain ⟨⟨hW, hWT, hKW, rk, hrk⟩, hD, hB⟩ := h.2.2.2.1
  obtain ⟨hH, hWS⟩ := h.2.2.2.2.2.1
  refine SY.ask h hr (c_X_says hS hR hV hV2 (by omega) hW hWT hKW hrk hD hH (by omega)) (fun K R' hp he => ?_)
  obtain ⟨⟨hS', hR', hN', h7'⟩, ⟨⟨hT', hTn'⟩, -, ⟨hV', hV2'⟩, -, -⟩, ⟨h11, -, -⟩, ⟨hW', hWT', hKW', rk', hrk'⟩, hWS'⟩ := hp
  obtain ⟨e2, ⟨eK, eF, eC, eG⟩, ⟨e7, e8, e0⟩, ⟨e11, e3⟩, e4, e5⟩ := he
  have q : Mt mi_M_says 1100 0 0 [.ref 761, .int x1, .int x2] (K, R', L, sh, N) _ := c_M_says hS' hR' hT' hTn' hV' hk1 (by omega) hW' hrk' hWS' (by omega)
  rw [TRE_TRK, e2, eK, eF, eC, eG, e7, e0] at q
  exact q
