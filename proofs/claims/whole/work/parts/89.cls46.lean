/-! THE CLASS: status -/
theorem l_De_countRules {d : Nat} {I : Nat → Nat → Int32} {R : Nat → Nat → Option Nat} {L : Nat → Nat → Int64} {sh : Nat → Nat × Nat} {N : Nat} (hS : ShOK sh) (hR : RfOK R) {tK tF tC tS : Nat → Int32} {nt : Nat} (hV : TV tK tF tC nt) (hV2 : TV2 tK tF tC tS nt) (hnt6 : nt ≤ 1000000) {G : Nat → Int32} {nP nF nS : Nat} (hW : WFA G nP nF nt) (hWT : WFT G nF nS) (hKW : WFK G nP nF) {rk : Nat → Nat} (hrk : RK G nF rk) (hD : DR tK tF tC tS I R sh nt 0 G nP nF nS) {Q : Option Value → HS → Prop} (hq : Q (some (.int (nI (smN (nRof G) nF)))) (I, R, L, sh, N)) (hd : 2 ≤ d) : ∀ (n_ : Nat) (i : Nat), nF - i = n_ → (i ≤ nF) → Run mi_De_countRules d 0 0 4 [(0, .ref 1), (1, .int (nI (smN (nRof G) i))), (2, .int (nI i))] [] (I, R, L, sh, N) Q := by
  intro n_
  induction n_ using Nat.strongRecOn with | ind n_ ih_ => ?_
  intro i hn_ v0_
  obtain ⟨hPc, hP24, hFc, hF12, hWF, hWP⟩ := id hW
  have hm1 : (-1 : Int32).toInt = -1 := by decide
  refine r_iload_n (pc2 := 5) d_De_countRules_4 rfl rfl ?_
  refine r_aload_n (x := some 1) (pc2 := 6) d_De_countRules_5 rfl rfl ?_
  refine q_getI (x := nI nF) (pc2 := 9) d_De_countRules_6 rfl k_De_24 (by decide) (sh_1 hS) hD.1.2.1 ?_
  refine q_icmp_ge (tgt := 30) (A := ((i : Nat) : Int)) (B := ((nF : Nat) : Int)) (pc2 := 12) d_De_countRules_9 rfl rfl (nI_toInt (by omega)) (nI_toInt (by omega)) (fun c1 => ?_) (fun c1 => ?_)
  · refine r_iload_n (pc2 := 31) d_De_countRules_30 rfl rfl ?_
    refine Run.ret (some (.int (nI (smN (nRof G) i)))) d_De_countRules_31 ⟨_, rfl⟩ ?_
    rw [show i = nF by omega]; exact hq
  · obtain ⟨tpi, kli, ski, fbi, nRi, nNi, nOi, fri, toi, ⟨a0i, b0i, cc0i, dd0i⟩, ⟨a1i, b1i, cc1i, dd1i⟩, ⟨a2i, b2i, cc2i, dd2i⟩, ⟨a3i, b3i, cc3i, dd3i⟩, ⟨a4i, b4i, cc4i, dd4i⟩, ⟨a5i, b5i, cc5i, dd5i⟩, ⟨a6i, b6i, cc6i, dd6i⟩, ⟨a8i, b8i, cc8i, dd8i⟩, ⟨a9i, b9i, cc9i, dd9i⟩⟩ := wfn (hWF i (by omega))
    obtain ⟨-, -, -, -, -, -, -, w7i, -, -, wNi, wRi, wKi, wOi⟩ := hWF i (by omega)
    obtain ⟨⟨x0i, x1i, x2i, x3i, x4i, x5i, x6i, x7i, x8i⟩, xni, xoi, xki, xci, xri⟩ := hD.2.2.2.1 i (by omega)
    have hfli := fe_lt (e := 0) (by decide) (show i < 12 by omega)
    unfold dk at hfli
    refine r_iload_n (pc2 := 13) d_De_countRules_12 rfl rfl ?_
    refine r_aload_n (x := some 1) (pc2 := 14) d_De_countRules_13 rfl rfl ?_
    refine q_getR (x := some 5) (pc2 := 17) d_De_countRules_14 rfl k_De_20 rfl (sh_1 hS) (rf_1_1 hR) ?_
    refine r_iload_n (pc2 := 18) d_De_countRules_17 rfl rfl ?_
    refine q_aaload (q := i) (x := some (fe 0 i)) (pc2 := 19) d_De_countRules_18 rfl (sh_5 hS) (by decide) (by decide) (nI_toInt (by omega)) (by omega) (rf_fe hR (show 0 < 3 by decide) (show i < 12 by omega)) ?_
    refine q_getI (x := nI nRi) (pc2 := 22) d_De_countRules_19 rfl k_De_119 (by decide) (sh_fe0 hS (show 0 < 3 by decide) (show i < 12 by omega)) (x4i.trans a4i) ?_
    refine q_iaddN (pc2 := 23) d_De_countRules_22 rfl ?_
    refine r_istore_n (pc2 := 24) d_De_countRules_23 rfl rfl (Nat.le_of_ble_eq_true rfl) ?_
    refine q_iinc (b := 1) (pc2 := 27) d_De_countRules_24 rfl rfl (by decide) (Nat.le_of_ble_eq_true rfl) ?_
    refine r_goto (tgt := 4) d_De_countRules_27 rfl ?_
    rw [show nI (smN (nRof G) i + nRi) = nI (smN (nRof G) (i + 1)) from by rw [smN_s]; congr 1; congr 1; show _ = nRof G i; unfold nRof; rw [b4i, Int.toNat_natCast]]
    refine Run.sub (l2 := [(0, .ref 1), (1, .int (nI (smN (nRof G) (i + 1)))), (2, .int (nI (i + 1)))]) ⟨rfl, rfl, rfl, trivial⟩ ?_
    exact ih_ (nF - (i + 1)) (by omega) (i + 1) rfl (by omega)
theorem c_De_countRules {d : Nat} {I : Nat → Nat → Int32} {R : Nat → Nat → Option Nat} {L : Nat → Nat → Int64} {sh : Nat → Nat × Nat} {N : Nat} (hS : ShOK sh) (hR : RfOK R) {tK tF tC tS : Nat → Int32} {nt : Nat} (hV : TV tK tF tC nt) (hV2 : TV2 tK tF tC tS nt) (hnt6 : nt ≤ 1000000) {G : Nat → Int32} {nP nF nS : Nat} (hW : WFA G nP nF nt) (hWT : WFT G nF nS) (hKW : WFK G nP nF) {rk : Nat → Nat} (hrk : RK G nF rk) (hD : DR tK tF tC tS I R sh nt 0 G nP nF nS) (hd : 2 ≤ d) : Me mi_De_countRules d 0 0 [.ref 1] (I, R, L, sh, N) (some (.int (nI (smN (nRof G) nF)))) (I, R, L, sh, N) := by
  refine Mt.of pn_De (Nat.le_of_ble_eq_true rfl) ?_
  show Run mi_De_countRules d 0 0 0 [(0, .ref 1)] [] (I, R, L, sh, N) _
  refine r_iconst (v := nI 0) (pc2 := 1) d_De_countRules_0 rfl (by decide) ?_
  refine r_istore_n (pc2 := 2) d_De_countRules_1 rfl rfl (Nat.le_of_ble_eq_true rfl) ?_
  refine r_iconst (v := nI 0) (pc2 := 3) d_De_countRules_2 rfl (by decide) ?_
  refine r_istore_n (pc2 := 4) d_De_countRules_3 rfl rfl (Nat.le_of_ble_eq_true rfl) ?_
  refine Run.sub (l2 := [(0, .ref 1), (1, .int (nI 0)), (2, .int (nI 0))]) ⟨rfl, rfl, rfl, trivial⟩ ?_
  exact l_De_countRules hS hR hV hV2 hnt6 hW hWT hKW hrk hD ⟨rfl, rfl⟩ hd _ 0 rfl (Nat.zero_le _)
theorem l_De_countNeeds {d : Nat} {I : Nat → Nat → Int32} {R : Nat → Nat → Option Nat} {L : Nat → Nat → Int64} {sh : Nat → Nat × Nat} {N : Nat} (hS : ShOK sh) (hR : RfOK R) {tK tF tC tS : Nat → Int32} {nt : Nat} (hV : TV tK tF tC nt) (hV2 : TV2 tK tF tC tS nt) (hnt6 : nt ≤ 1000000) {G : Nat → Int32} {nP nF nS : Nat} (hW : WFA G nP nF nt) (hWT : WFT G nF nS) (hKW : WFK G nP nF) {rk : Nat → Nat} (hrk : RK G nF rk) (hD : DR tK tF tC tS I R sh nt 0 G nP nF nS) {Q : Option Value → HS → Prop} (hq : Q (some (.int (nI (smN (nNof G) nF)))) (I, R, L, sh, N)) (hd : 2 ≤ d) : ∀ (n_ : Nat) (i : Nat), nF - i = n_ → (i ≤ nF) → Run mi_De_countNeeds d 0 0 4 [(0, .ref 1), (1, .int (nI (smN (nNof G) i))), (2, .int (nI i))] [] (I, R, L, sh, N) Q := by
  intro n_
  induction n_ using Nat.strongRecOn with | ind n_ ih_ => ?_
  intro i hn_ v0_
  obtain ⟨hPc, hP24, hFc, hF12, hWF, hWP⟩ := id hW
  have hm1 : (-1 : Int32).toInt = -1 := by decide
  refine r_iload_n (pc2 := 5) d_De_countNeeds_4 rfl rfl ?_
  refine r_aload_n (x := some 1) (pc2 := 6) d_De_countNeeds_5 rfl rfl ?_
  refine q_getI (x := nI nF) (pc2 := 9) d_De_countNeeds_6 rfl k_De_24 (by decide) (sh_1 hS) hD.1.2.1 ?_
  refine q_icmp_ge (tgt := 30) (A := ((i : Nat) : Int)) (B := ((nF : Nat) : Int)) (pc2 := 12) d_De_countNeeds_9 rfl rfl (nI_toInt (by omega)) (nI_toInt (by omega)) (fun c1 => ?_) (fun c1 => ?_)
  · refine r_iload_n (pc2 := 31) d_De_countNeeds_30 rfl rfl ?_
    refine Run.ret (some (.int (nI (smN (nNof G) i)))) d_De_countNeeds_31 ⟨_, rfl⟩ ?_
    rw [show i = nF by omega]; exact hq
  · obtain ⟨tpi, kli, ski, fbi, nRi, nNi, nOi, fri, toi, ⟨a0i, b0i, cc0i, dd0i⟩, ⟨a1i, b1i, cc1i, dd1i⟩, ⟨a2i, b2i, cc2i, dd2i⟩, ⟨a3i, b3i, cc3i, dd3i⟩, ⟨a4i, b4i, cc4i, dd4i⟩, ⟨a5i, b5i, cc5i, dd5i⟩, ⟨a6i, b6i, cc6i, dd6i⟩, ⟨a8i, b8i, cc8i, dd8i⟩, ⟨a9i, b9i, cc9i, dd9i⟩⟩ := wfn (hWF i (by omega))
    obtain ⟨-, -, -, -, -, -, -, w7i, -, -, wNi, wRi, wKi, wOi⟩ := hWF i (by omega)
    obtain ⟨⟨x0i, x1i, x2i, x3i, x4i, x5i, x6i, x7i, x8i⟩, xni, xoi, xki, xci, xri⟩ := hD.2.2.2.1 i (by omega)
    have hfli := fe_lt (e := 0) (by decide) (show i < 12 by omega)
    unfold dk at hfli
    refine r_iload_n (pc2 := 13) d_De_countNeeds_12 rfl rfl ?_
    refine r_aload_n (x := some 1) (pc2 := 14) d_De_countNeeds_13 rfl rfl ?_
    refine q_getR (x := some 5) (pc2 := 17) d_De_countNeeds_14 rfl k_De_20 rfl (sh_1 hS) (rf_1_1 hR) ?_
    refine r_iload_n (pc2 := 18) d_De_countNeeds_17 rfl rfl ?_
    refine q_aaload (q := i) (x := some (fe 0 i)) (pc2 := 19) d_De_countNeeds_18 rfl (sh_5 hS) (by decide) (by decide) (nI_toInt (by omega)) (by omega) (rf_fe hR (show 0 < 3 by decide) (show i < 12 by omega)) ?_
    refine q_getI (x := nI nNi) (pc2 := 22) d_De_countNeeds_19 rfl k_De_70 (by decide) (sh_fe0 hS (show 0 < 3 by decide) (show i < 12 by omega)) (x5i.trans a5i) ?_
    refine q_iaddN (pc2 := 23) d_De_countNeeds_22 rfl ?_
    refine r_istore_n (pc2 := 24) d_De_countNeeds_23 rfl rfl (Nat.le_of_ble_eq_true rfl) ?_
    refine q_iinc (b := 1) (pc2 := 27) d_De_countNeeds_24 rfl rfl (by decide) (Nat.le_of_ble_eq_true rfl) ?_
    refine r_goto (tgt := 4) d_De_countNeeds_27 rfl ?_
    rw [show nI (smN (nNof G) i + nNi) = nI (smN (nNof G) (i + 1)) from by rw [smN_s]; congr 1; congr 1; show _ = nNof G i; unfold nNof; rw [b5i, Int.toNat_natCast]]
    refine Run.sub (l2 := [(0, .ref 1), (1, .int (nI (smN (nNof G) (i + 1)))), (2, .int (nI (i + 1)))]) ⟨rfl, rfl, rfl, trivial⟩ ?_
    exact ih_ (nF - (i + 1)) (by omega) (i + 1) rfl (by omega)
theorem c_De_countNeeds {d : Nat} {I : Nat → Nat → Int32} {R : Nat → Nat → Option Nat} {L : Nat → Nat → Int64} {sh : Nat → Nat × Nat} {N : Nat} (hS : ShOK sh) (hR : RfOK R) {tK tF tC tS : Nat → Int32} {nt : Nat} (hV : TV tK tF tC nt) (hV2 : TV2 tK tF tC tS nt) (hnt6 : nt ≤ 1000000) {G : Nat → Int32} {nP nF nS : Nat} (hW : WFA G nP nF nt) (hWT : WFT G nF nS) (hKW : WFK G nP nF) {rk : Nat → Nat} (hrk : RK G nF rk) (hD : DR tK tF tC tS I R sh nt 0 G nP nF nS) (hd : 2 ≤ d) : Me mi_De_countNeeds d 0 0 [.ref 1] (I, R, L, sh, N) (some (.int (nI (smN (nNof G) nF)))) (I, R, L, sh, N) := by
  refine Mt.of pn_De (Nat.le_of_ble_eq_true rfl) ?_
  show Run mi_De_countNeeds d 0 0 0 [(0, .ref 1)] [] (I, R, L, sh, N) _
  refine r_iconst (v := nI 0) (pc2 := 1) d_De_countNeeds_0 rfl (by decide) ?_
  refine r_istore_n (pc2 := 2) d_De_countNeeds_1 rfl rfl (Nat.le_of_ble_eq_true rfl) ?_
  refine r_iconst (v := nI 0) (pc2 := 3) d_De_countNeeds_2 rfl (by decide) ?_
  refine r_istore_n (pc2 := 4) d_De_countNeeds_3 rfl rfl (Nat.le_of_ble_eq_true rfl) ?_
  refine Run.sub (l2 := [(0, .ref 1), (1, .int (nI 0)), (2, .int (nI 0))]) ⟨rfl, rfl, rfl, trivial⟩ ?_
  exact l_De_countNeeds hS hR hV hV2 hnt6 hW hWT hKW hrk hD ⟨rfl, rfl⟩ hd _ 0 rfl (Nat.zero_le _)
theorem l_De_countKept {d : Nat} {I : Nat → Nat → Int32} {R : Nat → Nat → Option Nat} {L : Nat → Nat → Int64} {sh : Nat → Nat × Nat} {N : Nat} (hS : ShOK sh) (hR : RfOK R) {tK tF tC tS : Nat → Int32} {nt : Nat} (hV : TV tK tF tC nt) (hV2 : TV2 tK tF tC tS nt) (hnt6 : nt ≤ 1000000) {G : Nat → Int32} {nP nF nS : Nat} (hW : WFA G nP nF nt) (hWT : WFT G nF nS) (hKW : WFK G nP nF) {rk : Nat → Nat} (hrk : RK G nF rk) (hD : DR tK tF tC tS I R sh nt 0 G nP nF nS) {Q : Option Value → HS → Prop} (hq : Q (some (.int (nI (smN (fun F => cnt (keptP G F) nP) nF)))) (I, R, L, sh, N)) (hd : 2 ≤ d) : ∀ (n_ : Nat) (i : Nat), nF - i = n_ → (i ≤ nF) → Run mi_De_countKept d 0 0 4 [(0, .ref 1), (1, .int (nI (smN (fun F => cnt (keptP G F) nP) i))), (2, .int (nI i))] [] (I, R, L, sh, N) Q := by
  intro n_
  induction n_ using Nat.strongRecOn with | ind n_ ih_ => ?_
  intro i hn_ v0_
  obtain ⟨hPc, hP24, hFc, hF12, hWF, hWP⟩ := id hW
  have hm1 : (-1 : Int32).toInt = -1 := by decide
  refine r_iload_n (pc2 := 5) d_De_countKept_4 rfl rfl ?_
  refine r_aload_n (x := some 1) (pc2 := 6) d_De_countKept_5 rfl rfl ?_
  refine q_getI (x := nI nF) (pc2 := 9) d_De_countKept_6 rfl k_De_24 (by decide) (sh_1 hS) hD.1.2.1 ?_
  refine q_icmp_ge (tgt := 33) (A := ((i : Nat) : Int)) (B := ((nF : Nat) : Int)) (pc2 := 12) d_De_countKept_9 rfl rfl (nI_toInt (by omega)) (nI_toInt (by omega)) (fun c1 => ?_) (fun c1 => ?_)
  · refine r_iload_n (pc2 := 34) d_De_countKept_33 rfl rfl ?_
    refine Run.ret (some (.int (nI (smN (fun F => cnt (keptP G F) nP) i)))) d_De_countKept_34 ⟨_, rfl⟩ ?_
    rw [show i = nF by omega]; exact hq
  · obtain ⟨tpi, kli, ski, fbi, nRi, nNi, nOi, fri, toi, ⟨a0i, b0i, cc0i, dd0i⟩, ⟨a1i, b1i, cc1i, dd1i⟩, ⟨a2i, b2i, cc2i, dd2i⟩, ⟨a3i, b3i, cc3i, dd3i⟩, ⟨a4i, b4i, cc4i, dd4i⟩, ⟨a5i, b5i, cc5i, dd5i⟩, ⟨a6i, b6i, cc6i, dd6i⟩, ⟨a8i, b8i, cc8i, dd8i⟩, ⟨a9i, b9i, cc9i, dd9i⟩⟩ := wfn (hWF i (by omega))
    obtain ⟨-, -, -, -, -, -, -, w7i, -, -, wNi, wRi, wKi, wOi⟩ := hWF i (by omega)
    obtain ⟨⟨x0i, x1i, x2i, x3i, x4i, x5i, x6i, x7i, x8i⟩, xni, xoi, xki, xci, xri⟩ := hD.2.2.2.1 i (by omega)
    have hfli := fe_lt (e := 0) (by decide) (show i < 12 by omega)
    unfold dk at hfli
    refine r_iload_n (pc2 := 13) d_De_countKept_12 rfl rfl ?_
    refine r_aload_n (x := some 1) (pc2 := 14) d_De_countKept_13 rfl rfl ?_
    refine q_getR (x := some 5) (pc2 := 17) d_De_countKept_14 rfl k_De_20 rfl (sh_1 hS) (rf_1_1 hR) ?_
    refine r_iload_n (pc2 := 18) d_De_countKept_17 rfl rfl ?_
    refine q_aaload (q := i) (x := some (fe 0 i)) (pc2 := 19) d_De_countKept_18 rfl (sh_5 hS) (by decide) (by decide) (nI_toInt (by omega)) (by omega) (rf_fe hR (show 0 < 3 by decide) (show i < 12 by omega)) ?_
    refine q_getR (x := some (fe 0 i + 5)) (pc2 := 22) d_De_countKept_19 rfl k_De_122 rfl (sh_fe0 hS (show 0 < 3 by decide) (show i < 12 by omega)) (rf_fe_10 hR (show 0 < 3 by decide) (show i < 12 by omega)) ?_
    refine q_calls (M2 := mi_X_countSome) (pc2 := 25) d_De_countKept_22 rfl k_De_125 cm_X_countSome cs_X_countSome rfl rfl (Nat.le_of_ble_eq_true rfl) (c_X_countSome (J := I) hS hR (A := fe 0 i + 5) (sh_fe5 hS (show 0 < 3 by decide) (show i < 12 by omega))) (d2 := d - 1) (by omega) (Nat.le_of_eq (Nat.zero_add _)) (Nat.le_of_eq (Nat.zero_add _)) ?_
    refine q_top (y := nI (cnt (keptP G i) nP)) (FR.nkp hP24 (hD.2.2.2.1 i (by omega))) ?_
    refine q_iaddN (pc2 := 26) d_De_countKept_25 rfl ?_
    refine r_istore_n (pc2 := 27) d_De_countKept_26 rfl rfl (Nat.le_of_ble_eq_true rfl) ?_
    refine q_iinc (b := 1) (pc2 := 30) d_De_countKept_27 rfl rfl (by decide) (Nat.le_of_ble_eq_true rfl) ?_
    refine r_goto (tgt := 4) d_De_countKept_30 rfl ?_
    rw [show nI (smN (fun F => cnt (keptP G F) nP) i + (cnt (keptP G i) nP)) = nI (smN (fun F => cnt (keptP G F) nP) (i + 1)) from by rw [smN_s]]
    refine Run.sub (l2 := [(0, .ref 1), (1, .int (nI (smN (fun F => cnt (keptP G F) nP) (i + 1)))), (2, .int (nI (i + 1)))]) ⟨rfl, rfl, rfl, trivial⟩ ?_
    exact ih_ (nF - (i + 1)) (by omega) (i + 1) rfl (by omega)
theorem c_De_countKept {d : Nat} {I : Nat → Nat → Int32} {R : Nat → Nat → Option Nat} {L : Nat → Nat → Int64} {sh : Nat → Nat × Nat} {N : Nat} (hS : ShOK sh) (hR : RfOK R) {tK tF tC tS : Nat → Int32} {nt : Nat} (hV : TV tK tF tC nt) (hV2 : TV2 tK tF tC tS nt) (hnt6 : nt ≤ 1000000) {G : Nat → Int32} {nP nF nS : Nat} (hW : WFA G nP nF nt) (hWT : WFT G nF nS) (hKW : WFK G nP nF) {rk : Nat → Nat} (hrk : RK G nF rk) (hD : DR tK tF tC tS I R sh nt 0 G nP nF nS) (hd : 2 ≤ d) : Me mi_De_countKept d 0 0 [.ref 1] (I, R, L, sh, N) (some (.int (nI (smN (fun F => cnt (keptP G F) nP) nF)))) (I, R, L, sh, N) := by
  refine Mt.of pn_De (Nat.le_of_ble_eq_true rfl) ?_
  show Run mi_De_countKept d 0 0 0 [(0, .ref 1)] [] (I, R, L, sh, N) _
  refine r_iconst (v := nI 0) (pc2 := 1) d_De_countKept_0 rfl (by decide) ?_
  refine r_istore_n (pc2 := 2) d_De_countKept_1 rfl rfl (Nat.le_of_ble_eq_true rfl) ?_
  refine r_iconst (v := nI 0) (pc2 := 3) d_De_countKept_2 rfl (by decide) ?_
  refine r_istore_n (pc2 := 4) d_De_countKept_3 rfl rfl (Nat.le_of_ble_eq_true rfl) ?_
  refine Run.sub (l2 := [(0, .ref 1), (1, .int (nI 0)), (2, .int (nI 0))]) ⟨rfl, rfl, rfl, trivial⟩ ?_
  exact l_De_countKept hS hR hV hV2 hnt6 hW hWT hKW hrk hD ⟨rfl, rfl⟩ hd _ 0 rfl (Nat.zero_le _)
theorem l_X_countShelves {d : Nat} {I : Nat → Nat → Int32} {R : Nat → Nat → Option Nat} {L : Nat → Nat → Int64} {sh : Nat → Nat × Nat} {N : Nat} (hS : ShOK sh) (hR : RfOK R) {tK tF tC tS : Nat → Int32} {nt : Nat} (hV : TV tK tF tC nt) {so sz tz : Nat → Int32} {E : Nat → Int64} (hH : SHR tK tF tC tS I R L sh nt so sz tz E) {Q : Option Value → HS → Prop} (hq : Q (some (.int (nI (cnt (fun s => decide (0 ≤ (so s).toInt)) 8)))) (I, R, L, sh, N)) (hd : 6 ≤ d) : ∀ (n_ : Nat) (i : Nat), 8 - i = n_ → (i ≤ 8) → Run mi_X_countShelves d 0 0 4 [(0, .ref 0), (1, .int (nI (cnt (fun s => decide (0 ≤ (so s).toInt)) i))), (2, .int (nI i))] [] (I, R, L, sh, N) Q := by
  intro n_
  induction n_ using Nat.strongRecOn with | ind n_ ih_ => ?_
  intro i hn_ v0_
  have hm1 : (-1 : Int32).toInt = -1 := by decide
  refine r_iload_n (pc2 := 5) d_X_countShelves_4 rfl rfl ?_
  refine r_bipush (v := nI 8) (pc2 := 7) d_X_countShelves_5 rfl (by decide) ?_
  refine q_icmp_ge (tgt := 32) (A := ((i : Nat) : Int)) (B := (8 : Int)) (pc2 := 10) d_X_countShelves_7 rfl rfl (nI_toInt (by omega)) (nI_toInt (by omega)) (fun c1 => ?_) (fun c1 => ?_)
  · refine r_iload_n (pc2 := 33) d_X_countShelves_32 rfl rfl ?_
    refine Run.ret (some (.int (nI (cnt (fun s => decide (0 ≤ (so s).toInt)) i)))) d_X_countShelves_33 ⟨_, rfl⟩ ?_
    obtain rfl : i = 8 := by omega
    exact hq
  · rcases hH i (by omega) with ⟨ha, h0, h3⟩ | ⟨ha, h0, h1, ⟨zz, hz, hz40⟩, h3, hL⟩ | ⟨cc, mm, bb, nn, h3, hco, hnm, hbm, h0, h4, htz, hso⟩
    · have hrt : rtN (so i) = -34 := by unfold rtN; rw [if_neg (by omega), if_pos (by omega)]
      refine r_aload_n (x := some 0) (pc2 := 11) d_X_countShelves_10 rfl rfl ?_
      refine q_getR (x := some 729) (pc2 := 14) d_X_countShelves_11 rfl k_X_42 rfl (sh_0 hS) (rf_0_7 hR) ?_
      refine r_iload_n (pc2 := 15) d_X_countShelves_14 rfl rfl ?_
      refine q_aaload (q := i) (x := some (745 + 2 * i)) (pc2 := 16) d_X_countShelves_15 rfl (sh_729 hS) (by decide) (by decide) (nI_toInt (by omega)) (by omega) ((rf_sf hR (show i < 8 by omega)).1) ?_
      refine q_callv (M2 := mi_Sh_holding) (pc2 := 19) d_X_countShelves_16 rfl k_X_115 cm_Sh_holding cv_Sh_holding (sh_sf hS (show i < 8 by omega)).1 (by decide) rfl rfl rfl (Nat.le_of_ble_eq_true rfl) (c_Sh_holdingN (J := I) (q := 745 + 2 * i) (sh_sf hS (show i < 8 by omega)).1 h3 h0 (by omega)) (d2 := d - 1) (by omega) (Nat.le_of_eq (Nat.zero_add _)) (Nat.le_of_eq (Nat.zero_add _)) ?_
      refine r_iconst (v := (-1 : Int32)) (pc2 := 20) d_X_countShelves_19 rfl (by decide) ?_
      refine q_icmp_eq (tgt := 26) (A := (-1 : Int)) (B := (-1 : Int)) (pc2 := 23) d_X_countShelves_20 rfl rfl (by decide) (by decide) (fun c2 => ?_) (fun c2 => ?_)
      rotate_left
      · exfalso; omega
      refine q_iinc (b := 1) (pc2 := 29) d_X_countShelves_26 rfl rfl (by decide) (Nat.le_of_ble_eq_true rfl) ?_
      refine r_goto (tgt := 4) d_X_countShelves_29 rfl ?_
      rw [show nI (cnt (fun s => decide (0 ≤ (so s).toInt)) i) = nI (cnt (fun s => decide (0 ≤ (so s).toInt)) (i + 1)) from by rw [cnt_s, if_neg (by simp only [decide_eq_true_eq]; omega)]; rfl]
      refine Run.sub (l2 := [(0, .ref 0), (1, .int (nI (cnt (fun s => decide (0 ≤ (so s).toInt)) (i + 1)))), (2, .int (nI (i + 1)))]) ⟨rfl, rfl, rfl, trivial⟩ ?_
      exact ih_ (8 - (i + 1)) (by omega) (i + 1) rfl (by omega)
    · have hrt : rtN (so i) = nI 0 := by unfold rtN; rw [if_neg (by omega), if_neg (by omega)]; rfl
      have hzi : (sz i).toInt = (zz : Int) := by rw [hz]; exact nI_toInt (by omega)
      refine r_aload_n (x := some 0) (pc2 := 11) d_X_countShelves_10 rfl rfl ?_
      refine q_getR (x := some 729) (pc2 := 14) d_X_countShelves_11 rfl k_X_42 rfl (sh_0 hS) (rf_0_7 hR) ?_
      refine r_iload_n (pc2 := 15) d_X_countShelves_14 rfl rfl ?_
      refine q_aaload (q := i) (x := some (745 + 2 * i)) (pc2 := 16) d_X_countShelves_15 rfl (sh_729 hS) (by decide) (by decide) (nI_toInt (by omega)) (by omega) ((rf_sf hR (show i < 8 by omega)).1) ?_
      refine q_callv (M2 := mi_Sh_holding) (pc2 := 19) d_X_countShelves_16 rfl k_X_115 cm_Sh_holding cv_Sh_holding (sh_sf hS (show i < 8 by omega)).1 (by decide) rfl rfl rfl (Nat.le_of_ble_eq_true rfl) (c_Sh_holdingN (J := I) (q := 745 + 2 * i) (sh_sf hS (show i < 8 by omega)).1 h3 h0 (by omega)) (d2 := d - 1) (by omega) (Nat.le_of_eq (Nat.zero_add _)) (Nat.le_of_eq (Nat.zero_add _)) ?_
      refine r_iconst (v := (-1 : Int32)) (pc2 := 20) d_X_countShelves_19 rfl (by decide) ?_
      refine q_icmp_eq (tgt := 26) (A := (so i).toInt) (B := (-1 : Int)) (pc2 := 23) d_X_countShelves_20 rfl rfl (rfl) (by decide) (fun c3 => ?_) (fun c3 => ?_)
      · exfalso; omega
      · refine q_iinc (b := 1) (pc2 := 26) d_X_countShelves_23 rfl rfl (by decide) (Nat.le_of_ble_eq_true rfl) ?_
        refine q_iinc (b := 1) (pc2 := 29) d_X_countShelves_26 rfl rfl (by decide) (Nat.le_of_ble_eq_true rfl) ?_
        refine r_goto (tgt := 4) d_X_countShelves_29 rfl ?_
        rw [show nI (cnt (fun s => decide (0 ≤ (so s).toInt)) i + 1) = nI (cnt (fun s => decide (0 ≤ (so s).toInt)) (i + 1)) from by rw [cnt_s, if_pos (decide_eq_true (by omega))]]
        refine Run.sub (l2 := [(0, .ref 0), (1, .int (nI (cnt (fun s => decide (0 ≤ (so s).toInt)) (i + 1)))), (2, .int (nI (i + 1)))]) ⟨rfl, rfl, rfl, trivial⟩ ?_
        exact ih_ (8 - (i + 1)) (by omega) (i + 1) rfl (by omega)
    · obtain ⟨ha, hk3, hk8⟩ := SH1.ci hV (show bb + nn < nt by omega) hso
      have hrt : rtN (so i) = -33 := by unfold rtN; rw [if_pos (by omega)]
      have hmm := hco.2.2.1.2
      refine r_aload_n (x := some 0) (pc2 := 11) d_X_countShelves_10 rfl rfl ?_
      refine q_getR (x := some 729) (pc2 := 14) d_X_countShelves_11 rfl k_X_42 rfl (sh_0 hS) (rf_0_7 hR) ?_
      refine r_iload_n (pc2 := 15) d_X_countShelves_14 rfl rfl ?_
      refine q_aaload (q := i) (x := some (745 + 2 * i)) (pc2 := 16) d_X_countShelves_15 rfl (sh_729 hS) (by decide) (by decide) (nI_toInt (by omega)) (by omega) ((rf_sf hR (show i < 8 by omega)).1) ?_
      refine q_callv (M2 := mi_Sh_holding) (pc2 := 19) d_X_countShelves_16 rfl k_X_115 cm_Sh_holding cv_Sh_holding (sh_sf hS (show i < 8 by omega)).1 (by decide) rfl rfl rfl (Nat.le_of_ble_eq_true rfl) (c_Sh_holdingC (J := I) (q := 745 + 2 * i) (sh_sf hS (show i < 8 by omega)).1 h3 hco hnm h4 (by omega)) (d2 := d - 1) (by omega) (Nat.le_of_eq (Nat.zero_add _)) (Nat.le_of_eq (Nat.zero_add _)) ?_
      have hhv : (nI 10 + tK (bb + nn)).toInt = 10 + (tK (bb + nn)).toInt := by rw [← hso]; exact ha
      refine r_iconst (v := (-1 : Int32)) (pc2 := 20) d_X_countShelves_19 rfl (by decide) ?_
      refine q_icmp_eq (tgt := 26) (A := 10 + (tK (bb + nn)).toInt) (B := (-1 : Int)) (pc2 := 23) d_X_countShelves_20 rfl rfl (hhv) (by decide) (fun c4 => ?_) (fun c4 => ?_)
      · exfalso; omega
      · refine q_iinc (b := 1) (pc2 := 26) d_X_countShelves_23 rfl rfl (by decide) (Nat.le_of_ble_eq_true rfl) ?_
        refine q_iinc (b := 1) (pc2 := 29) d_X_countShelves_26 rfl rfl (by decide) (Nat.le_of_ble_eq_true rfl) ?_
        refine r_goto (tgt := 4) d_X_countShelves_29 rfl ?_
        rw [show nI (cnt (fun s => decide (0 ≤ (so s).toInt)) i + 1) = nI (cnt (fun s => decide (0 ≤ (so s).toInt)) (i + 1)) from by rw [cnt_s, if_pos (decide_eq_true (by omega))]]
        refine Run.sub (l2 := [(0, .ref 0), (1, .int (nI (cnt (fun s => decide (0 ≤ (so s).toInt)) (i + 1)))), (2, .int (nI (i + 1)))]) ⟨rfl, rfl, rfl, trivial⟩ ?_
        exact ih_ (8 - (i + 1)) (by omega) (i + 1) rfl (by omega)
theorem c_X_countShelves {d : Nat} {I : Nat → Nat → Int32} {R : Nat → Nat → Option Nat} {L : Nat → Nat → Int64} {sh : Nat → Nat × Nat} {N : Nat} (hS : ShOK sh) (hR : RfOK R) {tK tF tC tS : Nat → Int32} {nt : Nat} (hV : TV tK tF tC nt) {so sz tz : Nat → Int32} {E : Nat → Int64} (hH : SHR tK tF tC tS I R L sh nt so sz tz E) (hd : 8 ≤ d) : Me mi_X_countShelves d 0 0 [.ref 0] (I, R, L, sh, N) (some (.int (nI (cnt (fun s => decide (0 ≤ (so s).toInt)) 8)))) (I, R, L, sh, N) := by
  refine Mt.of pn_X (Nat.le_of_ble_eq_true rfl) ?_
  show Run mi_X_countShelves d 0 0 0 [(0, .ref 0)] [] (I, R, L, sh, N) _
  refine r_iconst (v := nI 0) (pc2 := 1) d_X_countShelves_0 rfl (by decide) ?_
  refine r_istore_n (pc2 := 2) d_X_countShelves_1 rfl rfl (Nat.le_of_ble_eq_true rfl) ?_
  refine r_iconst (v := nI 0) (pc2 := 3) d_X_countShelves_2 rfl (by decide) ?_
  refine r_istore_n (pc2 := 4) d_X_countShelves_3 rfl rfl (Nat.le_of_ble_eq_true rfl) ?_
  refine Run.sub (l2 := [(0, .ref 0), (1, .int (nI 0)), (2, .int (nI 0))]) ⟨rfl, rfl, rfl, trivial⟩ ?_
  exact l_X_countShelves hS hR hV hH ⟨rfl, rfl⟩ (by omega) _ 0 rfl (Nat.zero_le _)
theorem c_X_status {d : Nat} {I : Nat → Nat → Int32} {R : Nat → Nat → Option Nat} {L : Nat → Nat → Int64} {sh : Nat → Nat × Nat} {N : Nat} (hS : ShOK sh) (hR : RfOK R) {tK tF tC tS : Nat → Int32} {nt : Nat} (hV : TV tK tF tC nt) (hV2 : TV2 tK tF tC tS nt) (hnt6 : nt ≤ 1000000) {G : Nat → Int32} {nP nF nS : Nat} (hW : WFA G nP nF nt) (hWT : WFT G nF nS) (hKW : WFK G nP nF) {rk : Nat → Nat} (hrk : RK G nF rk) (hD : DR tK tF tC tS I R sh nt 0 G nP nF nS) {so sz tz : Nat → Int32} {E : Nat → Int64} (hH : SHR tK tF tC tS I R L sh nt so sz tz E) {k tp : Int32} (hT9 : I 0 9 = tp) (hd : 40 ≤ d) : Mt mi_X_status d 0 0 [.ref 0, .int k] (I, R, L, sh, N) (XP I R L sh N (o_status G nP nF tp (cnt (fun s => decide (0 ≤ (so s).toInt)) 8) (I 744) k) (fun K _ => FrX sh I K)) := by
  obtain ⟨hPc, hP24, hFc, hF12, hWF, hWP⟩ := id hW
  have hm1 : (-1 : Int32).toInt = -1 := by decide
  refine Mt.of pn_X (Nat.le_of_ble_eq_true rfl) ?_
  show Run mi_X_status d 0 0 0 [(0, .ref 0), (1, .int k)] [] (I, R, L, sh, N) _
  refine r_iload_n (pc2 := 1) d_X_status_0 rfl rfl ?_
  refine r_bipush (v := nI 12) (pc2 := 3) d_X_status_1 rfl (by decide) ?_
  refine q_icmp_lt (tgt := 22) (A := k.toInt) (B := (12 : Int)) (pc2 := 6) d_X_status_3 rfl rfl (rfl) (nI_toInt (by omega)) (fun c1 => ?_) (fun c1 => ?_)
  · refine r_iload_n (pc2 := 23) d_X_status_22 rfl rfl ?_
    refine q_switch (tgt := 168) (A := k.toInt) d_X_status_23 rfl (rfl) (fun off t2 c2a c2b c2o c2t => ?_) (by decide) (by decide) (fun c2 => ?_)
    · have c2c : k.toInt = 0 ∨ k.toInt = 1 ∨ k.toInt = 2 ∨ k.toInt = 3 ∨ k.toInt = 4 ∨ k.toInt = 5 ∨ k.toInt = 6 ∨ k.toInt = 7 ∨ k.toInt = 8 ∨ k.toInt = 9 ∨ k.toInt = 10 := by omega
      rcases c2c with c2e | c2e | c2e | c2e | c2e | c2e | c2e | c2e | c2e | c2e | c2e
      · obtain rfl : t2 = 80 := by
          have hh : (some (57 : Int)) = some off := by rw [c2e] at c2o; exact c2o
          cases hh; omega
        refine r_aload_n (x := some 0) (pc2 := 81) d_X_status_80 rfl rfl ?_
        refine q_getR (x := some 1) (pc2 := 84) d_X_status_81 rfl k_X_12 rfl (sh_0 hS) (rf_0_0 hR) ?_
        refine q_getR (x := some 2) (pc2 := 87) d_X_status_84 rfl k_X_179 rfl (sh_1 hS) (rf_1_0 hR) ?_
        refine q_getI (x := nI nP) (pc2 := 90) d_X_status_87 rfl k_X_189 (by decide) (sh_2 hS) hD.1.1 ?_
        refine Run.ret (some (.int (nI nP))) d_X_status_90 ⟨_, rfl⟩ ?_
        first | (exfalso; omega) | exact XP.val (by unfold o_status; (repeat (first | rw [if_pos (by omega)] | rw [if_neg (by omega)])); (try rfl); (all_goals first | (rw [hWT.1]) | (rw [hT9]) | (congr 2; omega))) FrXR.rf FrX.rf
      · obtain rfl : t2 = 91 := by
          have hh : (some (68 : Int)) = some off := by rw [c2e] at c2o; exact c2o
          cases hh; omega
        refine r_aload_n (x := some 0) (pc2 := 92) d_X_status_91 rfl rfl ?_
        refine q_getR (x := some 1) (pc2 := 95) d_X_status_92 rfl k_X_12 rfl (sh_0 hS) (rf_0_0 hR) ?_
        refine q_getI (x := nI nF) (pc2 := 98) d_X_status_95 rfl k_X_208 (by decide) (sh_1 hS) hD.1.2.1 ?_
        refine Run.ret (some (.int (nI nF))) d_X_status_98 ⟨_, rfl⟩ ?_
        first | (exfalso; omega) | exact XP.val (by unfold o_status; (repeat (first | rw [if_pos (by omega)] | rw [if_neg (by omega)])); (try rfl); (all_goals first | (rw [hWT.1]) | (rw [hT9]) | (congr 2; omega))) FrXR.rf FrX.rf
      · obtain rfl : t2 = 99 := by
          have hh : (some (76 : Int)) = some off := by rw [c2e] at c2o; exact c2o
          cases hh; omega
        refine r_aload_n (x := some 0) (pc2 := 100) d_X_status_99 rfl rfl ?_
        refine q_getR (x := some 1) (pc2 := 103) d_X_status_100 rfl k_X_12 rfl (sh_0 hS) (rf_0_0 hR) ?_
        refine q_callv (M2 := mi_De_countRules) (pc2 := 106) d_X_status_103 rfl k_X_404 cm_De_countRules cv_De_countRules (sh_1 hS) (by decide) rfl rfl rfl (Nat.le_of_ble_eq_true rfl) (c_De_countRules hS hR hV hV2 hnt6 hW hWT hKW hrk hD (by omega)) (d2 := d - 1) (by omega) (Nat.le_of_eq (Nat.zero_add _)) (Nat.le_of_eq (Nat.zero_add _)) ?_
        refine Run.ret (some (.int (nI (smN (nRof G) nF)))) d_X_status_106 ⟨_, rfl⟩ ?_
        first | (exfalso; omega) | exact XP.val (by unfold o_status; (repeat (first | rw [if_pos (by omega)] | rw [if_neg (by omega)])); (try rfl); (all_goals first | (rw [hWT.1]) | (rw [hT9]) | (congr 2; omega))) FrXR.rf FrX.rf
      · obtain rfl : t2 = 107 := by
          have hh : (some (84 : Int)) = some off := by rw [c2e] at c2o; exact c2o
          cases hh; omega
        refine r_aload_n (x := some 0) (pc2 := 108) d_X_status_107 rfl rfl ?_
        refine q_getR (x := some 1) (pc2 := 111) d_X_status_108 rfl k_X_12 rfl (sh_0 hS) (rf_0_0 hR) ?_
        refine q_callv (M2 := mi_De_countNeeds) (pc2 := 114) d_X_status_111 rfl k_X_407 cm_De_countNeeds cv_De_countNeeds (sh_1 hS) (by decide) rfl rfl rfl (Nat.le_of_ble_eq_true rfl) (c_De_countNeeds hS hR hV hV2 hnt6 hW hWT hKW hrk hD (by omega)) (d2 := d - 1) (by omega) (Nat.le_of_eq (Nat.zero_add _)) (Nat.le_of_eq (Nat.zero_add _)) ?_
        refine Run.ret (some (.int (nI (smN (nNof G) nF)))) d_X_status_114 ⟨_, rfl⟩ ?_
        first | (exfalso; omega) | exact XP.val (by unfold o_status; (repeat (first | rw [if_pos (by omega)] | rw [if_neg (by omega)])); (try rfl); (all_goals first | (rw [hWT.1]) | (rw [hT9]) | (congr 2; omega))) FrXR.rf FrX.rf
      · obtain rfl : t2 = 115 := by
          have hh : (some (92 : Int)) = some off := by rw [c2e] at c2o; exact c2o
          cases hh; omega
        refine r_aload_n (x := some 0) (pc2 := 116) d_X_status_115 rfl rfl ?_
        refine q_getR (x := some 1) (pc2 := 119) d_X_status_116 rfl k_X_12 rfl (sh_0 hS) (rf_0_0 hR) ?_
        refine q_getR (x := some 6) (pc2 := 122) d_X_status_119 rfl k_X_305 rfl (sh_1 hS) (rf_1_3 hR) ?_
        refine q_getI (x := nI nS) (pc2 := 125) d_X_status_122 rfl k_X_309 (by decide) (sh_6 hS) hD.1.2.2.2.2.2 ?_
        refine Run.ret (some (.int (nI nS))) d_X_status_125 ⟨_, rfl⟩ ?_
        first | (exfalso; omega) | exact XP.val (by unfold o_status; (repeat (first | rw [if_pos (by omega)] | rw [if_neg (by omega)])); (try rfl); (all_goals first | (rw [hWT.1]) | (rw [hT9]) | (congr 2; omega))) FrXR.rf FrX.rf
      · obtain rfl : t2 = 126 := by
          have hh : (some (103 : Int)) = some off := by rw [c2e] at c2o; exact c2o
          cases hh; omega
        refine r_aload_n (x := some 0) (pc2 := 127) d_X_status_126 rfl rfl ?_
        refine q_getR (x := some 1) (pc2 := 130) d_X_status_127 rfl k_X_12 rfl (sh_0 hS) (rf_0_0 hR) ?_
        refine q_getI (x := G 3) (pc2 := 133) d_X_status_130 rfl k_X_301 (by decide) (sh_1 hS) hD.1.2.2.1 ?_
        refine Run.ret (some (.int (G 3))) d_X_status_133 ⟨_, rfl⟩ ?_
        first | (exfalso; omega) | exact XP.val (by unfold o_status; (repeat (first | rw [if_pos (by omega)] | rw [if_neg (by omega)])); (try rfl); (all_goals first | (rw [hWT.1]) | (rw [hT9]) | (congr 2; omega))) FrXR.rf FrX.rf
      · obtain rfl : t2 = 134 := by
          have hh : (some (111 : Int)) = some off := by rw [c2e] at c2o; exact c2o
          cases hh; omega
        refine r_aload_n (x := some 0) (pc2 := 135) d_X_status_134 rfl rfl ?_
        refine q_getR (x := some 1) (pc2 := 138) d_X_status_135 rfl k_X_12 rfl (sh_0 hS) (rf_0_0 hR) ?_
        refine q_callv (M2 := mi_De_countKept) (pc2 := 141) d_X_status_138 rfl k_X_410 cm_De_countKept cv_De_countKept (sh_1 hS) (by decide) rfl rfl rfl (Nat.le_of_ble_eq_true rfl) (c_De_countKept hS hR hV hV2 hnt6 hW hWT hKW hrk hD (by omega)) (d2 := d - 1) (by omega) (Nat.le_of_eq (Nat.zero_add _)) (Nat.le_of_eq (Nat.zero_add _)) ?_
        refine Run.ret (some (.int (nI (smN (fun F => cnt (keptP G F) nP) nF)))) d_X_status_141 ⟨_, rfl⟩ ?_
        first | (exfalso; omega) | exact XP.val (by unfold o_status; (repeat (first | rw [if_pos (by omega)] | rw [if_neg (by omega)])); (try rfl); (all_goals first | (rw [hWT.1]) | (rw [hT9]) | (congr 2; omega))) FrXR.rf FrX.rf
      · obtain rfl : t2 = 142 := by
          have hh : (some (119 : Int)) = some off := by rw [c2e] at c2o; exact c2o
          cases hh; omega
        refine r_aload_n (x := some 0) (pc2 := 143) d_X_status_142 rfl rfl ?_
        refine q_getR (x := some 1) (pc2 := 146) d_X_status_143 rfl k_X_12 rfl (sh_0 hS) (rf_0_0 hR) ?_
        refine q_getI (x := G 4) (pc2 := 149) d_X_status_146 rfl k_X_413 (by decide) (sh_1 hS) hD.1.2.2.2.2.1 ?_
        refine Run.ret (some (.int (G 4))) d_X_status_149 ⟨_, rfl⟩ ?_
        first | (exfalso; omega) | exact XP.val (by unfold o_status; (repeat (first | rw [if_pos (by omega)] | rw [if_neg (by omega)])); (try rfl); (all_goals first | (rw [hWT.1]) | (rw [hT9]) | (congr 2; omega))) FrXR.rf FrX.rf
      · obtain rfl : t2 = 150 := by
          have hh : (some (127 : Int)) = some off := by rw [c2e] at c2o; exact c2o
          cases hh; omega
        refine r_aload_n (x := some 0) (pc2 := 151) d_X_status_150 rfl rfl ?_
        refine q_getI (x := tp) (pc2 := 154) d_X_status_151 rfl k_X_49 (by decide) (sh_0 hS) hT9 ?_
        refine Run.ret (some (.int tp)) d_X_status_154 ⟨_, rfl⟩ ?_
        first | (exfalso; omega) | exact XP.val (by unfold o_status; (repeat (first | rw [if_pos (by omega)] | rw [if_neg (by omega)])); (try rfl); (all_goals first | (rw [hWT.1]) | (rw [hT9]) | (congr 2; omega))) FrXR.rf FrX.rf
      · obtain rfl : t2 = 155 := by
          have hh : (some (132 : Int)) = some off := by rw [c2e] at c2o; exact c2o
          cases hh; omega
        refine r_aload_n (x := some 0) (pc2 := 156) d_X_status_155 rfl rfl ?_
        refine q_getR (x := some 1) (pc2 := 159) d_X_status_156 rfl k_X_12 rfl (sh_0 hS) (rf_0_0 hR) ?_
        refine q_getI (x := G 5) (pc2 := 162) d_X_status_159 rfl k_X_401 (by decide) (sh_1 hS) hD.1.2.2.2.1 ?_
        refine Run.ret (some (.int (G 5))) d_X_status_162 ⟨_, rfl⟩ ?_
        first | (exfalso; omega) | exact XP.val (by unfold o_status; (repeat (first | rw [if_pos (by omega)] | rw [if_neg (by omega)])); (try rfl); (all_goals first | (rw [hWT.1]) | (rw [hT9]) | (congr 2; omega))) FrXR.rf FrX.rf
      · obtain rfl : t2 = 163 := by
          have hh : (some (140 : Int)) = some off := by rw [c2e] at c2o; exact c2o
          cases hh; omega
        refine r_aload_n (x := some 0) (pc2 := 164) d_X_status_163 rfl rfl ?_
        refine q_callv (M2 := mi_X_countShelves) (pc2 := 167) d_X_status_164 rfl k_X_416 cm_X_countShelves cv_X_countShelves (sh_0 hS) (by decide) rfl rfl rfl (Nat.le_of_ble_eq_true rfl) (c_X_countShelves hS hR hV hH (by omega)) (d2 := d - 1) (by omega) (Nat.le_of_eq (Nat.zero_add _)) (Nat.le_of_eq (Nat.zero_add _)) ?_
        refine Run.ret (some (.int (nI (cnt (fun s => decide (0 ≤ (so s).toInt)) 8)))) d_X_status_167 ⟨_, rfl⟩ ?_
        first | (exfalso; omega) | exact XP.val (by unfold o_status; (repeat (first | rw [if_pos (by omega)] | rw [if_neg (by omega)])); (try rfl); (all_goals first | (rw [hWT.1]) | (rw [hT9]) | (congr 2; omega))) FrXR.rf FrX.rf
    · refine r_iconst (v := (-1 : Int32)) (pc2 := 169) d_X_status_168 rfl (by decide) ?_
      refine Run.ret (some (.int ((-1 : Int32)))) d_X_status_169 ⟨_, rfl⟩ ?_
      first | (exfalso; omega) | exact XP.val (by unfold o_status; (repeat (first | rw [if_pos (by omega)] | rw [if_neg (by omega)])); (try rfl); (all_goals first | (rw [hWT.1]) | (rw [hT9]) | (congr 2; omega))) FrXR.rf FrX.rf
  · refine r_iload_n (pc2 := 7) d_X_status_6 rfl rfl ?_
    refine r_bipush (v := nI 17) (pc2 := 9) d_X_status_7 rfl (by decide) ?_
    refine q_icmp_ge (tgt := 22) (A := k.toInt) (B := (17 : Int)) (pc2 := 12) d_X_status_9 rfl rfl (rfl) (nI_toInt (by omega)) (fun c3 => ?_) (fun c3 => ?_)
    · refine r_iload_n (pc2 := 23) d_X_status_22 rfl rfl ?_
      refine q_switch (tgt := 168) (A := k.toInt) d_X_status_23 rfl (rfl) (fun off t2 c4a c4b c4o c4t => ?_) (by decide) (by decide) (fun c4 => ?_)
      · have c4c : k.toInt = 0 ∨ k.toInt = 1 ∨ k.toInt = 2 ∨ k.toInt = 3 ∨ k.toInt = 4 ∨ k.toInt = 5 ∨ k.toInt = 6 ∨ k.toInt = 7 ∨ k.toInt = 8 ∨ k.toInt = 9 ∨ k.toInt = 10 := by omega
        rcases c4c with c4e | c4e | c4e | c4e | c4e | c4e | c4e | c4e | c4e | c4e | c4e
        · obtain rfl : t2 = 80 := by
            have hh : (some (57 : Int)) = some off := by rw [c4e] at c4o; exact c4o
            cases hh; omega
          refine r_aload_n (x := some 0) (pc2 := 81) d_X_status_80 rfl rfl ?_
          refine q_getR (x := some 1) (pc2 := 84) d_X_status_81 rfl k_X_12 rfl (sh_0 hS) (rf_0_0 hR) ?_
          refine q_getR (x := some 2) (pc2 := 87) d_X_status_84 rfl k_X_179 rfl (sh_1 hS) (rf_1_0 hR) ?_
          refine q_getI (x := nI nP) (pc2 := 90) d_X_status_87 rfl k_X_189 (by decide) (sh_2 hS) hD.1.1 ?_
          refine Run.ret (some (.int (nI nP))) d_X_status_90 ⟨_, rfl⟩ ?_
          first | (exfalso; omega) | exact XP.val (by unfold o_status; (repeat (first | rw [if_pos (by omega)] | rw [if_neg (by omega)])); (try rfl); (all_goals first | (rw [hWT.1]) | (rw [hT9]) | (congr 2; omega))) FrXR.rf FrX.rf
        · obtain rfl : t2 = 91 := by
            have hh : (some (68 : Int)) = some off := by rw [c4e] at c4o; exact c4o
            cases hh; omega
          refine r_aload_n (x := some 0) (pc2 := 92) d_X_status_91 rfl rfl ?_
          refine q_getR (x := some 1) (pc2 := 95) d_X_status_92 rfl k_X_12 rfl (sh_0 hS) (rf_0_0 hR) ?_
          refine q_getI (x := nI nF) (pc2 := 98) d_X_status_95 rfl k_X_208 (by decide) (sh_1 hS) hD.1.2.1 ?_
          refine Run.ret (some (.int (nI nF))) d_X_status_98 ⟨_, rfl⟩ ?_
          first | (exfalso; omega) | exact XP.val (by unfold o_status; (repeat (first | rw [if_pos (by omega)] | rw [if_neg (by omega)])); (try rfl); (all_goals first | (rw [hWT.1]) | (rw [hT9]) | (congr 2; omega))) FrXR.rf FrX.rf
        · obtain rfl : t2 = 99 := by
            have hh : (some (76 : Int)) = some off := by rw [c4e] at c4o; exact c4o
            cases hh; omega
          refine r_aload_n (x := some 0) (pc2 := 100) d_X_status_99 rfl rfl ?_
          refine q_getR (x := some 1) (pc2 := 103) d_X_status_100 rfl k_X_12 rfl (sh_0 hS) (rf_0_0 hR) ?_
          refine q_callv (M2 := mi_De_countRules) (pc2 := 106) d_X_status_103 rfl k_X_404 cm_De_countRules cv_De_countRules (sh_1 hS) (by decide) rfl rfl rfl (Nat.le_of_ble_eq_true rfl) (c_De_countRules hS hR hV hV2 hnt6 hW hWT hKW hrk hD (by omega)) (d2 := d - 1) (by omega) (Nat.le_of_eq (Nat.zero_add _)) (Nat.le_of_eq (Nat.zero_add _)) ?_
          refine Run.ret (some (.int (nI (smN (nRof G) nF)))) d_X_status_106 ⟨_, rfl⟩ ?_
          first | (exfalso; omega) | exact XP.val (by unfold o_status; (repeat (first | rw [if_pos (by omega)] | rw [if_neg (by omega)])); (try rfl); (all_goals first | (rw [hWT.1]) | (rw [hT9]) | (congr 2; omega))) FrXR.rf FrX.rf
        · obtain rfl : t2 = 107 := by
            have hh : (some (84 : Int)) = some off := by rw [c4e] at c4o; exact c4o
            cases hh; omega
          refine r_aload_n (x := some 0) (pc2 := 108) d_X_status_107 rfl rfl ?_
          refine q_getR (x := some 1) (pc2 := 111) d_X_status_108 rfl k_X_12 rfl (sh_0 hS) (rf_0_0 hR) ?_
          refine q_callv (M2 := mi_De_countNeeds) (pc2 := 114) d_X_status_111 rfl k_X_407 cm_De_countNeeds cv_De_countNeeds (sh_1 hS) (by decide) rfl rfl rfl (Nat.le_of_ble_eq_true rfl) (c_De_countNeeds hS hR hV hV2 hnt6 hW hWT hKW hrk hD (by omega)) (d2 := d - 1) (by omega) (Nat.le_of_eq (Nat.zero_add _)) (Nat.le_of_eq (Nat.zero_add _)) ?_
          refine Run.ret (some (.int (nI (smN (nNof G) nF)))) d_X_status_114 ⟨_, rfl⟩ ?_
          first | (exfalso; omega) | exact XP.val (by unfold o_status; (repeat (first | rw [if_pos (by omega)] | rw [if_neg (by omega)])); (try rfl); (all_goals first | (rw [hWT.1]) | (rw [hT9]) | (congr 2; omega))) FrXR.rf FrX.rf
        · obtain rfl : t2 = 115 := by
            have hh : (some (92 : Int)) = some off := by rw [c4e] at c4o; exact c4o
            cases hh; omega
          refine r_aload_n (x := some 0) (pc2 := 116) d_X_status_115 rfl rfl ?_
          refine q_getR (x := some 1) (pc2 := 119) d_X_status_116 rfl k_X_12 rfl (sh_0 hS) (rf_0_0 hR) ?_
          refine q_getR (x := some 6) (pc2 := 122) d_X_status_119 rfl k_X_305 rfl (sh_1 hS) (rf_1_3 hR) ?_
          refine q_getI (x := nI nS) (pc2 := 125) d_X_status_122 rfl k_X_309 (by decide) (sh_6 hS) hD.1.2.2.2.2.2 ?_
          refine Run.ret (some (.int (nI nS))) d_X_status_125 ⟨_, rfl⟩ ?_
          first | (exfalso; omega) | exact XP.val (by unfold o_status; (repeat (first | rw [if_pos (by omega)] | rw [if_neg (by omega)])); (try rfl); (all_goals first | (rw [hWT.1]) | (rw [hT9]) | (congr 2; omega))) FrXR.rf FrX.rf
        · obtain rfl : t2 = 126 := by
            have hh : (some (103 : Int)) = some off := by rw [c4e] at c4o; exact c4o
            cases hh; omega
          refine r_aload_n (x := some 0) (pc2 := 127) d_X_status_126 rfl rfl ?_
          refine q_getR (x := some 1) (pc2 := 130) d_X_status_127 rfl k_X_12 rfl (sh_0 hS) (rf_0_0 hR) ?_
          refine q_getI (x := G 3) (pc2 := 133) d_X_status_130 rfl k_X_301 (by decide) (sh_1 hS) hD.1.2.2.1 ?_
          refine Run.ret (some (.int (G 3))) d_X_status_133 ⟨_, rfl⟩ ?_
          first | (exfalso; omega) | exact XP.val (by unfold o_status; (repeat (first | rw [if_pos (by omega)] | rw [if_neg (by omega)])); (try rfl); (all_goals first | (rw [hWT.1]) | (rw [hT9]) | (congr 2; omega))) FrXR.rf FrX.rf
        · obtain rfl : t2 = 134 := by
            have hh : (some (111 : Int)) = some off := by rw [c4e] at c4o; exact c4o
            cases hh; omega
          refine r_aload_n (x := some 0) (pc2 := 135) d_X_status_134 rfl rfl ?_
          refine q_getR (x := some 1) (pc2 := 138) d_X_status_135 rfl k_X_12 rfl (sh_0 hS) (rf_0_0 hR) ?_
          refine q_callv (M2 := mi_De_countKept) (pc2 := 141) d_X_status_138 rfl k_X_410 cm_De_countKept cv_De_countKept (sh_1 hS) (by decide) rfl rfl rfl (Nat.le_of_ble_eq_true rfl) (c_De_countKept hS hR hV hV2 hnt6 hW hWT hKW hrk hD (by omega)) (d2 := d - 1) (by omega) (Nat.le_of_eq (Nat.zero_add _)) (Nat.le_of_eq (Nat.zero_add _)) ?_
          refine Run.ret (some (.int (nI (smN (fun F => cnt (keptP G F) nP) nF)))) d_X_status_141 ⟨_, rfl⟩ ?_
          first | (exfalso; omega) | exact XP.val (by unfold o_status; (repeat (first | rw [if_pos (by omega)] | rw [if_neg (by omega)])); (try rfl); (all_goals first | (rw [hWT.1]) | (rw [hT9]) | (congr 2; omega))) FrXR.rf FrX.rf
        · obtain rfl : t2 = 142 := by
            have hh : (some (119 : Int)) = some off := by rw [c4e] at c4o; exact c4o
            cases hh; omega
          refine r_aload_n (x := some 0) (pc2 := 143) d_X_status_142 rfl rfl ?_
          refine q_getR (x := some 1) (pc2 := 146) d_X_status_143 rfl k_X_12 rfl (sh_0 hS) (rf_0_0 hR) ?_
          refine q_getI (x := G 4) (pc2 := 149) d_X_status_146 rfl k_X_413 (by decide) (sh_1 hS) hD.1.2.2.2.2.1 ?_
          refine Run.ret (some (.int (G 4))) d_X_status_149 ⟨_, rfl⟩ ?_
          first | (exfalso; omega) | exact XP.val (by unfold o_status; (repeat (first | rw [if_pos (by omega)] | rw [if_neg (by omega)])); (try rfl); (all_goals first | (rw [hWT.1]) | (rw [hT9]) | (congr 2; omega))) FrXR.rf FrX.rf
        · obtain rfl : t2 = 150 := by
            have hh : (some (127 : Int)) = some off := by rw [c4e] at c4o; exact c4o
            cases hh; omega
          refine r_aload_n (x := some 0) (pc2 := 151) d_X_status_150 rfl rfl ?_
          refine q_getI (x := tp) (pc2 := 154) d_X_status_151 rfl k_X_49 (by decide) (sh_0 hS) hT9 ?_
          refine Run.ret (some (.int tp)) d_X_status_154 ⟨_, rfl⟩ ?_
          first | (exfalso; omega) | exact XP.val (by unfold o_status; (repeat (first | rw [if_pos (by omega)] | rw [if_neg (by omega)])); (try rfl); (all_goals first | (rw [hWT.1]) | (rw [hT9]) | (congr 2; omega))) FrXR.rf FrX.rf
        · obtain rfl : t2 = 155 := by
            have hh : (some (132 : Int)) = some off := by rw [c4e] at c4o; exact c4o
            cases hh; omega
          refine r_aload_n (x := some 0) (pc2 := 156) d_X_status_155 rfl rfl ?_
          refine q_getR (x := some 1) (pc2 := 159) d_X_status_156 rfl k_X_12 rfl (sh_0 hS) (rf_0_0 hR) ?_
          refine q_getI (x := G 5) (pc2 := 162) d_X_status_159 rfl k_X_401 (by decide) (sh_1 hS) hD.1.2.2.2.1 ?_
          refine Run.ret (some (.int (G 5))) d_X_status_162 ⟨_, rfl⟩ ?_
          first | (exfalso; omega) | exact XP.val (by unfold o_status; (repeat (first | rw [if_pos (by omega)] | rw [if_neg (by omega)])); (try rfl); (all_goals first | (rw [hWT.1]) | (rw [hT9]) | (congr 2; omega))) FrXR.rf FrX.rf
        · obtain rfl : t2 = 163 := by
            have hh : (some (140 : Int)) = some off := by rw [c4e] at c4o; exact c4o
            cases hh; omega
          refine r_aload_n (x := some 0) (pc2 := 164) d_X_status_163 rfl rfl ?_
          refine q_callv (M2 := mi_X_countShelves) (pc2 := 167) d_X_status_164 rfl k_X_416 cm_X_countShelves cv_X_countShelves (sh_0 hS) (by decide) rfl rfl rfl (Nat.le_of_ble_eq_true rfl) (c_X_countShelves hS hR hV hH (by omega)) (d2 := d - 1) (by omega) (Nat.le_of_eq (Nat.zero_add _)) (Nat.le_of_eq (Nat.zero_add _)) ?_
          refine Run.ret (some (.int (nI (cnt (fun s => decide (0 ≤ (so s).toInt)) 8)))) d_X_status_167 ⟨_, rfl⟩ ?_
          first | (exfalso; omega) | exact XP.val (by unfold o_status; (repeat (first | rw [if_pos (by omega)] | rw [if_neg (by omega)])); (try rfl); (all_goals first | (rw [hWT.1]) | (rw [hT9]) | (congr 2; omega))) FrXR.rf FrX.rf
      · refine r_iconst (v := (-1 : Int32)) (pc2 := 169) d_X_status_168 rfl (by decide) ?_
        refine Run.ret (some (.int ((-1 : Int32)))) d_X_status_169 ⟨_, rfl⟩ ?_
        first | (exfalso; omega) | exact XP.val (by unfold o_status; (repeat (first | rw [if_pos (by omega)] | rw [if_neg (by omega)])); (try rfl); (all_goals first | (rw [hWT.1]) | (rw [hT9]) | (congr 2; omega))) FrXR.rf FrX.rf
    · obtain ⟨jN, hjN, ejN⟩ : ∃ a : Nat, a < 5 ∧ k.toInt = (a : Int) + 12 := ⟨(k.toInt - 12).toNat, by omega, by omega⟩
      obtain rfl : k = nI (jN + 12) := eq_nI (by omega)
      refine r_aload_n (x := some 0) (pc2 := 13) d_X_status_12 rfl rfl ?_
      refine q_getR (x := some 744) (pc2 := 16) d_X_status_13 rfl k_X_67 rfl (sh_0 hS) (rf_0_12 hR) ?_
      refine r_iload_n (pc2 := 17) d_X_status_16 rfl rfl ?_
      refine r_bipush (v := nI 12) (pc2 := 19) d_X_status_17 rfl (by decide) ?_
      refine q_isubN (pc2 := 20) d_X_status_19 rfl (by omega) ?_
      refine q_iaload (q := jN + 12 - 12) (x := I 744 (jN + 12 - 12)) (pc2 := 21) d_X_status_20 rfl (sh_744 hS) (nI_toInt (by omega)) (by omega) rfl ?_
      refine Run.ret (some (.int (I 744 (jN + 12 - 12)))) d_X_status_21 ⟨_, rfl⟩ ?_
      first | (exfalso; omega) | exact XP.val (by unfold o_status; (repeat (first | rw [if_pos (by omega)] | rw [if_neg (by omega)])); (try rfl); (all_goals first | (rw [hWT.1]) | (rw [hT9]) | (congr 2; omega))) FrXR.rf FrX.rf
