/-! THE CLASS: judge -/
theorem pJ_lt {G : Nat → Int32} {nP p : Nat} {x : Int64} (h : pJ G nP x = some p) : p < nP := by
  unfold pJ at h
  split at h
  · exact (fst1_spec (show fst1 _ _ = some p from h)).1
  · cases h
theorem l_X_hasPersons {d : Nat} {I : Nat → Nat → Int32} {R : Nat → Nat → Option Nat} {L : Nat → Nat → Int64} {sh : Nat → Nat × Nat} {N : Nat} (hS : ShOK sh) (hR : RfOK R) {tK tF tC tS : Nat → Int32} {nt : Nat} (hV : TV tK tF tC nt) (hV2 : TV2 tK tF tC tS nt) (hnt6 : nt ≤ 1000000) {G : Nat → Int32} {nP nF nS : Nat} (hW : WFA G nP nF nt) (hWT : WFT G nF nS) (hKW : WFK G nP nF) {rk : Nat → Nat} (hrk : RK G nF rk) (hD : DR tK tF tC tS I R sh nt 0 G nP nF nS) {s n z : Nat} (hs : s < 8) {E : Nat → Int64} (hL : ∀ j, j < 40 → L (746 + 2 * s) j = E (40 * s + j)) (hz : I (745 + 2 * s) 1 = nI z) (hz40 : z ≤ 40) (hnz : 2 * n ≤ z) {Q : Option Value → HS → Prop} (hq : Q (some (.int (bI ((fst1 (fun k => (pJ G nP (E (40 * s + 2 * k))).isNone) n).isNone = true)))) (I, R, L, sh, N)) (hd : 4 ≤ d) : ∀ (n_ : Nat) (i : Nat), n - i = n_ → (i ≤ n) → (∀ j, j < i → (pJ G nP (E (40 * s + 2 * j))).isNone = false) → Run mi_X_hasPersons d 0 0 2 [(0, .ref 0), (1, .ref (745 + 2 * s)), (2, .int (nI n)), (3, .int (nI i))] [] (I, R, L, sh, N) Q := by
  intro n_
  induction n_ using Nat.strongRecOn with | ind n_ ih_ => ?_
  intro i hn_ v0_ v1_
  obtain ⟨hPc, hP24, hFc, hF12, hWF, hWP⟩ := id hW
  have hm1 : (-1 : Int32).toInt = -1 := by decide
  refine r_iload_n (pc2 := 3) d_X_hasPersons_2 rfl rfl ?_
  refine r_iload_n (pc2 := 4) d_X_hasPersons_3 rfl rfl ?_
  refine q_icmp_ge (tgt := 37) (A := ((i : Nat) : Int)) (B := ((n : Nat) : Int)) (pc2 := 7) d_X_hasPersons_4 rfl rfl (nI_toInt (by omega)) (nI_toInt (by omega)) (fun c1 => ?_) (fun c1 => ?_)
  · refine r_iconst (v := nI 1) (pc2 := 38) d_X_hasPersons_37 rfl (by decide) ?_
    refine Run.ret (some (.int (nI 1))) d_X_hasPersons_38 ⟨_, rfl, by decide⟩ ?_
    have hf : fst1 (fun k => (pJ G nP (E (40 * s + 2 * k))).isNone) n = none := fst1_none (fun j hj => v1_ j (by omega))
    rw [hf] at hq; exact hq
  · refine r_aload_n (x := some 0) (pc2 := 8) d_X_hasPersons_7 rfl rfl ?_
    refine q_getR (x := some 1) (pc2 := 11) d_X_hasPersons_8 rfl k_X_12 rfl (sh_0 hS) (rf_0_0 hR) ?_
    refine q_getR (x := some 2) (pc2 := 14) d_X_hasPersons_11 rfl k_X_179 rfl (sh_1 hS) (rf_1_0 hR) ?_
    refine r_aload_n (x := some (745 + 2 * s)) (pc2 := 15) d_X_hasPersons_14 rfl rfl ?_
    refine q_getR (x := some (746 + 2 * s)) (pc2 := 18) d_X_hasPersons_15 rfl k_X_101 rfl (sh_sf hS (show s < 8 by omega)).1 ((rf_sf hR (show s < 8 by omega)).2) ?_
    refine r_iconst (v := nI 2) (pc2 := 19) d_X_hasPersons_18 rfl (by decide) ?_
    refine r_iload_n (pc2 := 20) d_X_hasPersons_19 rfl rfl ?_
    refine q_imulN (pc2 := 21) d_X_hasPersons_20 rfl ?_
    refine q_laload (q := 2 * i) (x := E (40 * s + (2 * i))) (pc2 := 22) d_X_hasPersons_21 rfl (sh_sf hS (show s < 8 by omega)).2 (nI_toInt (by omega)) (by omega) (hL (2 * i) (by omega)) ?_
    refine q_callv (M2 := mi_Pe_find) (pc2 := 25) d_X_hasPersons_22 rfl k_X_183 cm_Pe_find cv_Pe_find (sh_2 hS) (by decide) rfl rfl rfl (Nat.le_of_ble_eq_true rfl) (c_Pe_find (I := I) (x := E (40 * s + (2 * i))) hS hR hV hV2 hnt6 hW hWT hKW hrk hD) (d2 := d - 1) (by omega) (Nat.le_of_eq (Nat.zero_add _)) (Nat.le_of_eq (Nat.zero_add _)) ?_
    refine q_top (y := vo (pJ G nP (E (40 * s + (2 * i))))) (by rw [fL_j (fun p hp => (hWP p hp).2)]) ?_
    cases hopj : pJ G nP (E (40 * s + (2 * i))) with
    | none =>
      refine r_iconst (v := (-1 : Int32)) (pc2 := 26) d_X_hasPersons_25 rfl (by decide) ?_
      refine q_icmp_ne (tgt := 31) (A := (-1 : Int)) (B := (-1 : Int)) (pc2 := 29) d_X_hasPersons_26 rfl rfl (by decide) (by decide) (fun c2 => ?_) (fun c2 => ?_)
      · exfalso; omega
      refine r_iconst (v := nI 0) (pc2 := 30) d_X_hasPersons_29 rfl (by decide) ?_
      refine Run.ret (some (.int (nI 0))) d_X_hasPersons_30 ⟨_, rfl, by decide⟩ ?_
      have hf : fst1 (fun k => (pJ G nP (E (40 * s + 2 * k))).isNone) n = some i := fst1_some v1_ (by show (pJ G nP (E (40 * s + (2 * i)))).isNone = true; rw [hopj]; rfl) (by omega)
      rw [hf] at hq; exact hq
    | some pj =>
      have hpl := pJ_lt hopj
      refine r_iconst (v := (-1 : Int32)) (pc2 := 26) d_X_hasPersons_25 rfl (by decide) ?_
      refine q_icmp_ne (tgt := 31) (A := ((pj : Nat) : Int)) (B := (-1 : Int)) (pc2 := 29) d_X_hasPersons_26 rfl rfl (nI_toInt (by omega)) (by decide) (fun c3 => ?_) (fun c3 => ?_)
      rotate_left
      · exfalso; omega
      refine q_iinc (b := 1) (pc2 := 34) d_X_hasPersons_31 rfl rfl (by decide) (Nat.le_of_ble_eq_true rfl) ?_
      refine r_goto (tgt := 2) d_X_hasPersons_34 rfl ?_
      refine Run.sub (l2 := [(0, .ref 0), (1, .ref (745 + 2 * s)), (2, .int (nI n)), (3, .int (nI (i + 1)))]) ⟨rfl, rfl, rfl, rfl, trivial⟩ ?_
      exact ih_ (n - (i + 1)) (by omega) (i + 1) rfl (by omega) (fun j hj => by
        rcases Nat.lt_or_ge j i with q | q
        · exact v1_ j q
        · rw [show j = i by omega]; show (pJ G nP (E (40 * s + (2 * i)))).isNone = false; rw [hopj]; rfl)
theorem c_X_hasPersons {d : Nat} {I : Nat → Nat → Int32} {R : Nat → Nat → Option Nat} {L : Nat → Nat → Int64} {sh : Nat → Nat × Nat} {N : Nat} (hS : ShOK sh) (hR : RfOK R) {tK tF tC tS : Nat → Int32} {nt : Nat} (hV : TV tK tF tC nt) (hV2 : TV2 tK tF tC tS nt) (hnt6 : nt ≤ 1000000) {G : Nat → Int32} {nP nF nS : Nat} (hW : WFA G nP nF nt) (hWT : WFT G nF nS) (hKW : WFK G nP nF) {rk : Nat → Nat} (hrk : RK G nF rk) (hD : DR tK tF tC tS I R sh nt 0 G nP nF nS) {s n z : Nat} (hs : s < 8) {E : Nat → Int64} (hL : ∀ j, j < 40 → L (746 + 2 * s) j = E (40 * s + j)) (hz : I (745 + 2 * s) 1 = nI z) (hz40 : z ≤ 40) (hnz : 2 * n ≤ z) (hd : 6 ≤ d) : Me mi_X_hasPersons d 0 0 [.ref 0, .ref (745 + 2 * s), .int (nI n)] (I, R, L, sh, N) (some (.int (bI ((fst1 (fun k => (pJ G nP (E (40 * s + 2 * k))).isNone) n).isNone = true)))) (I, R, L, sh, N) := by
  refine Mt.of pn_X (Nat.le_of_ble_eq_true rfl) ?_
  show Run mi_X_hasPersons d 0 0 0 [(0, .ref 0), (1, .ref (745 + 2 * s)), (2, .int (nI n))] [] (I, R, L, sh, N) _
  refine r_iconst (v := nI 0) (pc2 := 1) d_X_hasPersons_0 rfl (by decide) ?_
  refine r_istore_n (pc2 := 2) d_X_hasPersons_1 rfl rfl (Nat.le_of_ble_eq_true rfl) ?_
  refine Run.sub (l2 := [(0, .ref 0), (1, .ref (745 + 2 * s)), (2, .int (nI n)), (3, .int (nI 0))]) ⟨rfl, rfl, rfl, rfl, trivial⟩ ?_
  exact l_X_hasPersons hS hR hV hV2 hnt6 hW hWT hKW hrk hD hs hL hz hz40 hnz ⟨rfl, rfl⟩ (by omega) _ 0 rfl (Nat.zero_le _) (fun j hj => absurd hj (by omega))
theorem l_X_firstUntrue {d : Nat} {I : Nat → Nat → Int32} {R : Nat → Nat → Option Nat} {L : Nat → Nat → Int64} {sh : Nat → Nat × Nat} {N : Nat} (hS : ShOK sh) (hR : RfOK R) {tK tF tC tS : Nat → Int32} {nt : Nat} (hV : TV tK tF tC nt) (hV2 : TV2 tK tF tC tS nt) (hnt6 : nt ≤ 1000000) {G : Nat → Int32} {nP nF nS : Nat} (hW : WFA G nP nF nt) (hWT : WFT G nF nS) (hKW : WFK G nP nF) {rk : Nat → Nat} (hrk : RK G nF rk) (hD : DR tK tF tC tS I R sh nt 0 G nP nF nS) {s n z : Nat} (hs : s < 8) {E : Nat → Int64} (hL : ∀ j, j < 40 → L (746 + 2 * s) j = E (40 * s + j)) (hz : I (745 + 2 * s) 1 = nI z) (hz40 : z ≤ 40) (hnz : 2 * n ≤ z) {F : Nat} (hF : F < nF) (hall : ∀ k, k < n → (pJ G nP (E (40 * s + 2 * k))).isNone = false) {Q : Option Value → HS → Prop} (hq : ∀ K, FrX sh I K → Q (some (.int (vo (fst1 (jP (TRK tK tF tC tS) G nP F E (40 * s)) n)))) (K, R, L, sh, N)) (hd : 60 ≤ d) : ∀ (n_ : Nat) (i : Nat) (J : Nat → Nat → Int32), n - i = n_ → (FrN sh 718 I J) → (i ≤ n) → (∀ j, j < i → jP (TRK tK tF tC tS) G nP F E (40 * s) j = false) → Run mi_X_firstUntrue d 0 0 3 [(0, .ref 0), (1, .int (nI F)), (2, .ref (745 + 2 * s)), (3, .int (nI n)), (4, .int (nI i))] [] (J, R, L, sh, N) Q := by
  intro n_
  induction n_ using Nat.strongRecOn with | ind n_ ih_ => ?_
  intro i J hn_ v0_ v1_ v2_
  obtain ⟨hPc, hP24, hFc, hF12, hWF, hWP⟩ := id hW
  have hm1 : (-1 : Int32).toInt = -1 := by decide
  have dJ := DR.x hS hW (by decide) hD (v0_.x (by decide)) FrXR.rf
  refine r_iload (pc2 := 5) d_X_firstUntrue_3 rfl rfl ?_
  refine r_iload_n (pc2 := 6) d_X_firstUntrue_5 rfl rfl ?_
  refine q_icmp_ge (tgt := 68) (A := ((i : Nat) : Int)) (B := ((n : Nat) : Int)) (pc2 := 9) d_X_firstUntrue_6 rfl rfl (nI_toInt (by omega)) (nI_toInt (by omega)) (fun c1 => ?_) (fun c1 => ?_)
  · refine r_iconst (v := (-1 : Int32)) (pc2 := 69) d_X_firstUntrue_68 rfl (by decide) ?_
    refine Run.ret (some (.int ((-1 : Int32)))) d_X_firstUntrue_69 ⟨_, rfl⟩ ?_
    have hf : fst1 (jP (TRK tK tF tC tS) G nP F E (40 * s)) n = none := fst1_none (fun j hj => v2_ j (by omega))
    rw [hf] at hq; exact hq _ (v0_.x (by decide))
  · refine r_aload_n (x := some 0) (pc2 := 10) d_X_firstUntrue_9 rfl rfl ?_
    refine q_getR (x := some 1) (pc2 := 13) d_X_firstUntrue_10 rfl k_X_12 rfl (sh_0 hS) (rf_0_0 hR) ?_
    refine q_getR (x := some 2) (pc2 := 16) d_X_firstUntrue_13 rfl k_X_179 rfl (sh_1 hS) (rf_1_0 hR) ?_
    refine r_aload_n (x := some (745 + 2 * s)) (pc2 := 17) d_X_firstUntrue_16 rfl rfl ?_
    refine q_getR (x := some (746 + 2 * s)) (pc2 := 20) d_X_firstUntrue_17 rfl k_X_101 rfl (sh_sf hS (show s < 8 by omega)).1 ((rf_sf hR (show s < 8 by omega)).2) ?_
    refine r_iconst (v := nI 2) (pc2 := 21) d_X_firstUntrue_20 rfl (by decide) ?_
    refine r_iload (pc2 := 23) d_X_firstUntrue_21 rfl rfl ?_
    refine q_imulN (pc2 := 24) d_X_firstUntrue_23 rfl ?_
    refine q_laload (q := 2 * i) (x := E (40 * s + (2 * i))) (pc2 := 25) d_X_firstUntrue_24 rfl (sh_sf hS (show s < 8 by omega)).2 (nI_toInt (by omega)) (by omega) (hL (2 * i) (by omega)) ?_
    refine q_callv (M2 := mi_Pe_find) (pc2 := 28) d_X_firstUntrue_25 rfl k_X_183 cm_Pe_find cv_Pe_find (sh_2 hS) (by decide) rfl rfl rfl (Nat.le_of_ble_eq_true rfl) (c_Pe_find (I := J) (x := E (40 * s + (2 * i))) hS hR hV hV2 hnt6 hW hWT hKW hrk dJ) (d2 := d - 1) (by omega) (Nat.le_of_eq (Nat.zero_add _)) (Nat.le_of_eq (Nat.zero_add _)) ?_
    refine q_top (y := vo (pJ G nP (E (40 * s + (2 * i))))) (by rw [fL_j (fun p hp => (hWP p hp).2)]) ?_
    cases hopj : pJ G nP (E (40 * s + (2 * i))) with
    | none =>
      refine r_istore (pc2 := 30) d_X_firstUntrue_28 rfl (Nat.le_of_ble_eq_true rfl) ?_
      refine r_iload (pc2 := 32) d_X_firstUntrue_30 rfl rfl ?_
      refine r_iconst (v := (-1 : Int32)) (pc2 := 33) d_X_firstUntrue_32 rfl (by decide) ?_
      refine q_icmp_eq (tgt := 59) (A := (-1 : Int)) (B := (-1 : Int)) (pc2 := 36) d_X_firstUntrue_33 rfl rfl (by decide) (by decide) (fun c2 => ?_) (fun c2 => ?_)
      rotate_left
      · exfalso; omega
      refine r_iload (pc2 := 61) d_X_firstUntrue_59 rfl rfl ?_
      refine Run.ret (some (.int (nI i))) d_X_firstUntrue_61 ⟨_, rfl⟩ ?_
      have := hall i (by omega)
      rw [show E (40 * s + 2 * i) = E (40 * s + (2 * i)) from rfl, hopj] at this; cases this
    | some pj =>
      have hpl := pJ_lt hopj
      refine r_istore (pc2 := 30) d_X_firstUntrue_28 rfl (Nat.le_of_ble_eq_true rfl) ?_
      refine r_iload (pc2 := 32) d_X_firstUntrue_30 rfl rfl ?_
      refine r_iconst (v := (-1 : Int32)) (pc2 := 33) d_X_firstUntrue_32 rfl (by decide) ?_
      refine q_icmp_eq (tgt := 59) (A := ((pj : Nat) : Int)) (B := (-1 : Int)) (pc2 := 36) d_X_firstUntrue_33 rfl rfl (nI_toInt (by omega)) (by decide) (fun c3 => ?_) (fun c3 => ?_)
      · exfalso; omega
      refine r_aload_n (x := some 0) (pc2 := 37) d_X_firstUntrue_36 rfl rfl ?_
      refine r_iload_n (pc2 := 38) d_X_firstUntrue_37 rfl rfl ?_
      refine r_iload (pc2 := 40) d_X_firstUntrue_38 rfl rfl ?_
      refine r_callv (M2 := mi_X_answerOne) (pc2 := 43) d_X_firstUntrue_40 rfl k_X_321 cm_X_answerOne cv_X_answerOne (sh_0 hS) (by decide) rfl rfl rfl (Nat.le_of_ble_eq_true rfl) (c_X_answerOne (I := J) hS hR hV hV2 hnt6 hW dJ hrk (p := pj) (by omega) (F := F) hF FrN.rf (d := d - 1) (by omega)) (d2 := d - 1) (by omega) (Nat.le_of_eq (Nat.zero_add _)) (Nat.le_of_eq (Nat.zero_add _)) (fun r2 h2 hq2 => ?_)
      obtain ⟨K4, rfl, rfl, hnK4, -⟩ := hq2
      change Run _ _ _ _ _ _ [.int ((AN (TRK tK tF tC tS) G pj F).1)] _ _
      refine r_i2l (pc2 := 44) d_X_firstUntrue_43 rfl ?_
      refine r_aload_n (x := some (745 + 2 * s)) (pc2 := 45) d_X_firstUntrue_44 rfl rfl ?_
      refine q_getR (x := some (746 + 2 * s)) (pc2 := 48) d_X_firstUntrue_45 rfl k_X_101 rfl (sh_sf hS (show s < 8 by omega)).1 ((rf_sf hR (show s < 8 by omega)).2) ?_
      refine r_iconst (v := nI 2) (pc2 := 49) d_X_firstUntrue_48 rfl (by decide) ?_
      refine r_iload (pc2 := 51) d_X_firstUntrue_49 rfl rfl ?_
      refine q_imulN (pc2 := 52) d_X_firstUntrue_51 rfl ?_
      refine r_iconst (v := nI 1) (pc2 := 53) d_X_firstUntrue_52 rfl (by decide) ?_
      refine q_iaddN (pc2 := 54) d_X_firstUntrue_53 rfl ?_
      refine q_laload (q := 2 * i + 1) (x := E (40 * s + (2 * i + 1))) (pc2 := 55) d_X_firstUntrue_54 rfl (sh_sf hS (show s < 8 by omega)).2 (nI_toInt (by omega)) (by omega) (hL (2 * i + 1) (by omega)) ?_
      refine r_lcmp (pc2 := 56) d_X_firstUntrue_55 rfl ?_
      refine q_lif_eq (tgt := 62) (A := ((AN (TRK tK tF tC tS) G pj F).1).toInt) (B := (E (40 * s + (2 * i + 1))).toInt) (pc2 := 59) d_X_firstUntrue_56 rfl rfl (toInt64_toInt (rfl)) (rfl) (fun c5 => ?_) (fun c5 => ?_)
      · refine q_iinc (b := 1) (pc2 := 65) d_X_firstUntrue_62 rfl rfl (by decide) (Nat.le_of_ble_eq_true rfl) ?_
        refine r_goto (tgt := 3) d_X_firstUntrue_65 rfl ?_
        refine Run.sub (l2 := [(0, .ref 0), (1, .int (nI F)), (2, .ref (745 + 2 * s)), (3, .int (nI n)), (4, .int (nI (i + 1)))]) ⟨rfl, rfl, rfl, rfl, rfl, trivial⟩ ?_
        exact ih_ (n - (i + 1)) (by omega) (i + 1) K4 rfl ((v0_.tr hnK4)) (by omega) (fun j hj => by
          rcases Nat.lt_or_ge j i with q | q
          · exact v2_ j q
          · rw [show j = i by omega]; unfold jP; rw [show E (40 * s + 2 * i) = E (40 * s + (2 * i)) from rfl, hopj]; exact decide_eq_false (fun z => z c5))
      · refine r_iload (pc2 := 61) d_X_firstUntrue_59 rfl rfl ?_
        refine Run.ret (some (.int (nI i))) d_X_firstUntrue_61 ⟨_, rfl⟩ ?_
        have hf : fst1 (jP (TRK tK tF tC tS) G nP F E (40 * s)) n = some i := fst1_some v2_ (by unfold jP; rw [show E (40 * s + 2 * i) = E (40 * s + (2 * i)) from rfl, hopj]; exact decide_eq_true c5) (by omega)
        rw [hf] at hq; exact hq _ ((v0_.tr hnK4).x (by decide))
theorem c_X_firstUntrue {d : Nat} {I : Nat → Nat → Int32} {R : Nat → Nat → Option Nat} {L : Nat → Nat → Int64} {sh : Nat → Nat × Nat} {N : Nat} (hS : ShOK sh) (hR : RfOK R) {tK tF tC tS : Nat → Int32} {nt : Nat} (hV : TV tK tF tC nt) (hV2 : TV2 tK tF tC tS nt) (hnt6 : nt ≤ 1000000) {G : Nat → Int32} {nP nF nS : Nat} (hW : WFA G nP nF nt) (hWT : WFT G nF nS) (hKW : WFK G nP nF) {rk : Nat → Nat} (hrk : RK G nF rk) (hD : DR tK tF tC tS I R sh nt 0 G nP nF nS) {s n z : Nat} (hs : s < 8) {E : Nat → Int64} (hL : ∀ j, j < 40 → L (746 + 2 * s) j = E (40 * s + j)) (hz : I (745 + 2 * s) 1 = nI z) (hz40 : z ≤ 40) (hnz : 2 * n ≤ z) {F : Nat} (hF : F < nF) (hall : ∀ k, k < n → (pJ G nP (E (40 * s + 2 * k))).isNone = false) (hd : 62 ≤ d) : Mt mi_X_firstUntrue d 0 0 [.ref 0, .int (nI F), .ref (745 + 2 * s), .int (nI n)] (I, R, L, sh, N) (fun r h2 => ∃ K, h2 = (K, R, L, sh, N) ∧ r = some (.int (vo (fst1 (jP (TRK tK tF tC tS) G nP F E (40 * s)) n))) ∧ FrX sh I K) := by
  refine Mt.of pn_X (Nat.le_of_ble_eq_true rfl) ?_
  show Run mi_X_firstUntrue d 0 0 0 [(0, .ref 0), (1, .int (nI F)), (2, .ref (745 + 2 * s)), (3, .int (nI n))] [] (I, R, L, sh, N) _
  refine r_iconst (v := nI 0) (pc2 := 1) d_X_firstUntrue_0 rfl (by decide) ?_
  refine r_istore (pc2 := 3) d_X_firstUntrue_1 rfl (Nat.le_of_ble_eq_true rfl) ?_
  refine Run.sub (l2 := [(0, .ref 0), (1, .int (nI F)), (2, .ref (745 + 2 * s)), (3, .int (nI n)), (4, .int (nI 0))]) ⟨rfl, rfl, rfl, rfl, rfl, trivial⟩ ?_
  exact l_X_firstUntrue hS hR hV hV2 hnt6 hW hWT hKW hrk hD hs hL hz hz40 hnz hF hall (fun K hK => ⟨K, rfl, rfl, hK⟩) (by omega) _ 0 I rfl FrN.rf (Nat.zero_le _) (fun j hj => absurd hj (by omega))
theorem c_X_judge {d : Nat} {I : Nat → Nat → Int32} {R : Nat → Nat → Option Nat} {L : Nat → Nat → Int64} {sh : Nat → Nat × Nat} {N : Nat} (hS : ShOK sh) (hR : RfOK R) {tK tF tC tS : Nat → Int32} {nt : Nat} (hV : TV tK tF tC nt) (hV2 : TV2 tK tF tC tS nt) (hnt6 : nt ≤ 1000000) {G : Nat → Int32} {nP nF nS : Nat} (hW : WFA G nP nF nt) (hWT : WFT G nF nS) (hKW : WFK G nP nF) {rk : Nat → Nat} (hrk : RK G nF rk) (hD : DR tK tF tC tS I R sh nt 0 G nP nF nS) {so sz tz : Nat → Int32} {E : Nat → Int64} (hH : SHR tK tF tC tS I R L sh nt so sz tz E) {f s n : Int32} (hd : 80 ≤ d) : Mt mi_X_judge d 0 0 [.ref 0, .int f, .int s, .int n] (I, R, L, sh, N) (XP I R L sh N (o_judge (TRK tK tF tC tS) G nP nF so sz E f s n) (fun K _ => FrX sh I K)) := by
  obtain ⟨hPc, hP24, hFc, hF12, hWF, hWP⟩ := id hW
  have hm1 : (-1 : Int32).toInt = -1 := by decide
  refine Mt.of pn_X (Nat.le_of_ble_eq_true rfl) ?_
  show Run mi_X_judge d 0 0 0 [(0, .ref 0), (1, .int f), (2, .int s), (3, .int n)] [] (I, R, L, sh, N) _
  by_cases h7s : 0 ≤ s.toInt ∧ s.toInt ≤ 7
  · obtain ⟨sN, hsN, rfl, esN⟩ : ∃ a : Nat, a < 8 ∧ s = nI a ∧ s.toInt = (a : Int) := ⟨s.toInt.toNat, by omega, eq_nI (by omega), by omega⟩
    rcases hH sN (by omega) with ⟨ha, h0, h3⟩ | ⟨ha, h0, h1, ⟨zz, hz, hz40⟩, h3, hL⟩ | ⟨cc, mm, bb, nn, h3, hco, hnm, hbm, h0, h4, htz, hso⟩
    · have hrt : rtN (so sN) = -34 := by unfold rtN; rw [if_neg (by omega), if_pos (by omega)]
      refine r_aload_n (x := some 0) (pc2 := 1) d_X_judge_0 rfl rfl ?_
      refine r_iload_n (pc2 := 2) d_X_judge_1 rfl rfl ?_
      refine q_callv (M2 := mi_X_isFeature) (pc2 := 5) d_X_judge_2 rfl k_X_220 cm_X_isFeature cv_X_isFeature (sh_0 hS) (by decide) rfl rfl rfl (Nat.le_of_ble_eq_true rfl) (c_X_isFeature (f := f) hS hR hV hV2 hnt6 hW hWT hKW hrk hD) (d2 := d - 1) (by omega) (Nat.le_of_eq (Nat.zero_add _)) (Nat.le_of_eq (Nat.zero_add _)) ?_
      refine q_bif_eq (tgt := 26) (pc2 := 8) d_X_judge_5 rfl rfl (fun c1 => ?_) (fun c1 => ?_)
      · refine r_aload_n (x := some 0) (pc2 := 27) d_X_judge_26 rfl rfl ?_
        refine r_bipush (v := (-32 : Int32)) (pc2 := 29) d_X_judge_27 rfl (by decide) ?_
        refine q_callv (M2 := mi_X_refuse) (pc2 := 32) d_X_judge_29 rfl k_X_75 cm_X_refuse cv_X_refuse (sh_0 hS) (by decide) rfl rfl rfl (Nat.le_of_ble_eq_true rfl) (c_X_refuse_0 (J := I) hS hR) (d2 := d - 1) (by omega) (Nat.le_of_eq (Nat.zero_add _)) (Nat.le_of_eq (Nat.zero_add _)) ?_
        obtain ⟨I2, hI2⟩ : ∃ x, x = u2 I 744 0 (I 744 0 + nI 1) := ⟨_, rfl⟩
        rw [← hI2]
        refine Run.ret (some (.int ((-32 : Int32)))) d_X_judge_32 ⟨_, rfl⟩ ?_
        first | (exfalso; omega) | exact XP.bad hS 0 (by unfold o_judge; (try simp only [esN, Int.toNat_natCast]); (repeat (first | rw [if_pos (by omega)] | rw [if_neg (by omega)]))) (by decide) FrXR.rf FrX.rf hI2
      · obtain ⟨fN, hfN, rfl, efN⟩ := nat_of c1
        obtain ⟨tpfN, klfN, skfN, fbfN, nRfN, nNfN, nOfN, frfN, tofN, ⟨a0fN, b0fN, cc0fN, dd0fN⟩, ⟨a1fN, b1fN, cc1fN, dd1fN⟩, ⟨a2fN, b2fN, cc2fN, dd2fN⟩, ⟨a3fN, b3fN, cc3fN, dd3fN⟩, ⟨a4fN, b4fN, cc4fN, dd4fN⟩, ⟨a5fN, b5fN, cc5fN, dd5fN⟩, ⟨a6fN, b6fN, cc6fN, dd6fN⟩, ⟨a8fN, b8fN, cc8fN, dd8fN⟩, ⟨a9fN, b9fN, cc9fN, dd9fN⟩⟩ := wfn (hWF fN (by omega))
        obtain ⟨-, -, -, -, -, -, -, w7fN, -, -, wNfN, wRfN, wKfN, wOfN⟩ := hWF fN (by omega)
        obtain ⟨⟨x0fN, x1fN, x2fN, x3fN, x4fN, x5fN, x6fN, x7fN, x8fN⟩, xnfN, xofN, xkfN, xcfN, xrfN⟩ := hD.2.2.2.1 fN (by omega)
        have hflfN := fe_lt (e := 0) (by decide) (show fN < 12 by omega)
        unfold dk at hflfN
        refine r_aload_n (x := some 0) (pc2 := 9) d_X_judge_8 rfl rfl ?_
        refine r_iload_n (pc2 := 10) d_X_judge_9 rfl rfl ?_
        refine q_callv (M2 := mi_X_isShelf) (pc2 := 13) d_X_judge_10 rfl k_X_71 cm_X_isShelf cv_X_isShelf (sh_0 hS) (by decide) rfl rfl rfl (Nat.le_of_ble_eq_true rfl) (c_X_isShelf (s := nI sN)) (d2 := d - 1) (by omega) (Nat.le_of_eq (Nat.zero_add _)) (Nat.le_of_eq (Nat.zero_add _)) ?_
        refine q_bif_eq (tgt := 26) (pc2 := 16) d_X_judge_13 rfl rfl (fun c3 => ?_) (fun c3 => ?_)
        · refine r_aload_n (x := some 0) (pc2 := 27) d_X_judge_26 rfl rfl ?_
          refine r_bipush (v := (-32 : Int32)) (pc2 := 29) d_X_judge_27 rfl (by decide) ?_
          refine q_callv (M2 := mi_X_refuse) (pc2 := 32) d_X_judge_29 rfl k_X_75 cm_X_refuse cv_X_refuse (sh_0 hS) (by decide) rfl rfl rfl (Nat.le_of_ble_eq_true rfl) (c_X_refuse_0 (J := I) hS hR) (d2 := d - 1) (by omega) (Nat.le_of_eq (Nat.zero_add _)) (Nat.le_of_eq (Nat.zero_add _)) ?_
          obtain ⟨I4, hI4⟩ : ∃ x, x = u2 I 744 0 (I 744 0 + nI 1) := ⟨_, rfl⟩
          rw [← hI4]
          refine Run.ret (some (.int ((-32 : Int32)))) d_X_judge_32 ⟨_, rfl⟩ ?_
          first | (exfalso; omega) | exact XP.bad hS 0 (by unfold o_judge; (try simp only [esN, efN, b0fN, b1fN, b2fN, b3fN, b4fN, b5fN, b6fN, b8fN, b9fN, Int.toNat_natCast]); (repeat (first | rw [if_pos (by omega)] | rw [if_neg (by omega)]))) (by decide) FrXR.rf FrX.rf hI4
        · refine r_iload_n (pc2 := 17) d_X_judge_16 rfl rfl ?_
          refine q_if_lt (tgt := 26) (A := n.toInt) (pc2 := 20) d_X_judge_17 rfl rfl (rfl) (fun c5 => ?_) (fun c5 => ?_)
          · refine r_aload_n (x := some 0) (pc2 := 27) d_X_judge_26 rfl rfl ?_
            refine r_bipush (v := (-32 : Int32)) (pc2 := 29) d_X_judge_27 rfl (by decide) ?_
            refine q_callv (M2 := mi_X_refuse) (pc2 := 32) d_X_judge_29 rfl k_X_75 cm_X_refuse cv_X_refuse (sh_0 hS) (by decide) rfl rfl rfl (Nat.le_of_ble_eq_true rfl) (c_X_refuse_0 (J := I) hS hR) (d2 := d - 1) (by omega) (Nat.le_of_eq (Nat.zero_add _)) (Nat.le_of_eq (Nat.zero_add _)) ?_
            obtain ⟨I6, hI6⟩ : ∃ x, x = u2 I 744 0 (I 744 0 + nI 1) := ⟨_, rfl⟩
            rw [← hI6]
            refine Run.ret (some (.int ((-32 : Int32)))) d_X_judge_32 ⟨_, rfl⟩ ?_
            first | (exfalso; omega) | exact XP.bad hS 0 (by unfold o_judge; (try simp only [esN, efN, b0fN, b1fN, b2fN, b3fN, b4fN, b5fN, b6fN, b8fN, b9fN, Int.toNat_natCast]); (repeat (first | rw [if_pos (by omega)] | rw [if_neg (by omega)]))) (by decide) FrXR.rf FrX.rf hI6
          · refine r_iload_n (pc2 := 21) d_X_judge_20 rfl rfl ?_
            refine r_bipush (v := nI 20) (pc2 := 23) d_X_judge_21 rfl (by decide) ?_
            refine q_icmp_le (tgt := 33) (A := n.toInt) (B := (20 : Int)) (pc2 := 26) d_X_judge_23 rfl rfl (rfl) (nI_toInt (by omega)) (fun c7 => ?_) (fun c7 => ?_)
            · obtain ⟨nN, hnN, rfl, enN⟩ : ∃ a : Nat, a ≤ 20 ∧ n = nI a ∧ n.toInt = (a : Int) := ⟨n.toInt.toNat, by omega, eq_nI (by omega), by omega⟩
              refine r_aload_n (x := some 0) (pc2 := 34) d_X_judge_33 rfl rfl ?_
              refine r_iload_n (pc2 := 35) d_X_judge_34 rfl rfl ?_
              refine q_callv (M2 := mi_X_rowTrouble) (pc2 := 38) d_X_judge_35 rfl k_X_83 cm_X_rowTrouble cv_X_rowTrouble (sh_0 hS) (by decide) rfl rfl rfl (Nat.le_of_ble_eq_true rfl) (c_X_rowTrouble hS hR hV hH (s := sN) (by omega) (by omega)) (d2 := d - 1) (by omega) (Nat.le_of_eq (Nat.zero_add _)) (Nat.le_of_eq (Nat.zero_add _)) ?_
              refine q_top (y := (-34 : Int32)) hrt ?_
              refine r_istore (pc2 := 40) d_X_judge_38 rfl (Nat.le_of_ble_eq_true rfl) ?_
              refine r_iload (pc2 := 42) d_X_judge_40 rfl rfl ?_
              refine q_if_eq (tgt := 52) (A := (-34 : Int)) (pc2 := 45) d_X_judge_42 rfl rfl (by decide) (fun c8 => ?_) (fun c8 => ?_)
              · exfalso; omega
              refine r_aload_n (x := some 0) (pc2 := 46) d_X_judge_45 rfl rfl ?_
              refine r_iload (pc2 := 48) d_X_judge_46 rfl rfl ?_
              refine q_callv (M2 := mi_X_refuse) (pc2 := 51) d_X_judge_48 rfl k_X_75 cm_X_refuse cv_X_refuse (sh_0 hS) (by decide) rfl rfl rfl (Nat.le_of_ble_eq_true rfl) (c_X_refuse_2 (J := I) hS hR) (d2 := d - 1) (by omega) (Nat.le_of_eq (Nat.zero_add _)) (Nat.le_of_eq (Nat.zero_add _)) ?_
              obtain ⟨I9, hI9⟩ : ∃ x, x = u2 I 744 2 (I 744 2 + nI 1) := ⟨_, rfl⟩
              rw [← hI9]
              refine Run.ret (some (.int ((-34 : Int32)))) d_X_judge_51 ⟨_, rfl⟩ ?_
              first | (exfalso; omega) | exact XP.bad hS 2 (by unfold o_judge; (try simp only [esN, efN, b0fN, b1fN, b2fN, b3fN, b4fN, b5fN, b6fN, b8fN, b9fN, enN, Int.toNat_natCast]); (repeat (first | rw [if_pos (by omega)] | rw [if_neg (by omega)]))) (by decide) FrXR.rf FrX.rf hI9
            · refine r_aload_n (x := some 0) (pc2 := 27) d_X_judge_26 rfl rfl ?_
              refine r_bipush (v := (-32 : Int32)) (pc2 := 29) d_X_judge_27 rfl (by decide) ?_
              refine q_callv (M2 := mi_X_refuse) (pc2 := 32) d_X_judge_29 rfl k_X_75 cm_X_refuse cv_X_refuse (sh_0 hS) (by decide) rfl rfl rfl (Nat.le_of_ble_eq_true rfl) (c_X_refuse_0 (J := I) hS hR) (d2 := d - 1) (by omega) (Nat.le_of_eq (Nat.zero_add _)) (Nat.le_of_eq (Nat.zero_add _)) ?_
              obtain ⟨I10, hI10⟩ : ∃ x, x = u2 I 744 0 (I 744 0 + nI 1) := ⟨_, rfl⟩
              rw [← hI10]
              refine Run.ret (some (.int ((-32 : Int32)))) d_X_judge_32 ⟨_, rfl⟩ ?_
              first | (exfalso; omega) | exact XP.bad hS 0 (by unfold o_judge; (try simp only [esN, efN, b0fN, b1fN, b2fN, b3fN, b4fN, b5fN, b6fN, b8fN, b9fN, Int.toNat_natCast]); (repeat (first | rw [if_pos (by omega)] | rw [if_neg (by omega)]))) (by decide) FrXR.rf FrX.rf hI10
    · have hrt : rtN (so sN) = nI 0 := by unfold rtN; rw [if_neg (by omega), if_neg (by omega)]; rfl
      have hzi : (sz sN).toInt = (zz : Int) := by rw [hz]; exact nI_toInt (by omega)
      refine r_aload_n (x := some 0) (pc2 := 1) d_X_judge_0 rfl rfl ?_
      refine r_iload_n (pc2 := 2) d_X_judge_1 rfl rfl ?_
      refine q_callv (M2 := mi_X_isFeature) (pc2 := 5) d_X_judge_2 rfl k_X_220 cm_X_isFeature cv_X_isFeature (sh_0 hS) (by decide) rfl rfl rfl (Nat.le_of_ble_eq_true rfl) (c_X_isFeature (f := f) hS hR hV hV2 hnt6 hW hWT hKW hrk hD) (d2 := d - 1) (by omega) (Nat.le_of_eq (Nat.zero_add _)) (Nat.le_of_eq (Nat.zero_add _)) ?_
      refine q_bif_eq (tgt := 26) (pc2 := 8) d_X_judge_5 rfl rfl (fun c11 => ?_) (fun c11 => ?_)
      · refine r_aload_n (x := some 0) (pc2 := 27) d_X_judge_26 rfl rfl ?_
        refine r_bipush (v := (-32 : Int32)) (pc2 := 29) d_X_judge_27 rfl (by decide) ?_
        refine q_callv (M2 := mi_X_refuse) (pc2 := 32) d_X_judge_29 rfl k_X_75 cm_X_refuse cv_X_refuse (sh_0 hS) (by decide) rfl rfl rfl (Nat.le_of_ble_eq_true rfl) (c_X_refuse_0 (J := I) hS hR) (d2 := d - 1) (by omega) (Nat.le_of_eq (Nat.zero_add _)) (Nat.le_of_eq (Nat.zero_add _)) ?_
        obtain ⟨I12, hI12⟩ : ∃ x, x = u2 I 744 0 (I 744 0 + nI 1) := ⟨_, rfl⟩
        rw [← hI12]
        refine Run.ret (some (.int ((-32 : Int32)))) d_X_judge_32 ⟨_, rfl⟩ ?_
        first | (exfalso; omega) | exact XP.bad hS 0 (by unfold o_judge; (try simp only [esN, hzi, Int.toNat_natCast]); (repeat (first | rw [if_pos (by omega)] | rw [if_neg (by omega)]))) (by decide) FrXR.rf FrX.rf hI12
      · obtain ⟨fN, hfN, rfl, efN⟩ := nat_of c11
        obtain ⟨tpfN, klfN, skfN, fbfN, nRfN, nNfN, nOfN, frfN, tofN, ⟨a0fN, b0fN, cc0fN, dd0fN⟩, ⟨a1fN, b1fN, cc1fN, dd1fN⟩, ⟨a2fN, b2fN, cc2fN, dd2fN⟩, ⟨a3fN, b3fN, cc3fN, dd3fN⟩, ⟨a4fN, b4fN, cc4fN, dd4fN⟩, ⟨a5fN, b5fN, cc5fN, dd5fN⟩, ⟨a6fN, b6fN, cc6fN, dd6fN⟩, ⟨a8fN, b8fN, cc8fN, dd8fN⟩, ⟨a9fN, b9fN, cc9fN, dd9fN⟩⟩ := wfn (hWF fN (by omega))
        obtain ⟨-, -, -, -, -, -, -, w7fN, -, -, wNfN, wRfN, wKfN, wOfN⟩ := hWF fN (by omega)
        obtain ⟨⟨x0fN, x1fN, x2fN, x3fN, x4fN, x5fN, x6fN, x7fN, x8fN⟩, xnfN, xofN, xkfN, xcfN, xrfN⟩ := hD.2.2.2.1 fN (by omega)
        have hflfN := fe_lt (e := 0) (by decide) (show fN < 12 by omega)
        unfold dk at hflfN
        refine r_aload_n (x := some 0) (pc2 := 9) d_X_judge_8 rfl rfl ?_
        refine r_iload_n (pc2 := 10) d_X_judge_9 rfl rfl ?_
        refine q_callv (M2 := mi_X_isShelf) (pc2 := 13) d_X_judge_10 rfl k_X_71 cm_X_isShelf cv_X_isShelf (sh_0 hS) (by decide) rfl rfl rfl (Nat.le_of_ble_eq_true rfl) (c_X_isShelf (s := nI sN)) (d2 := d - 1) (by omega) (Nat.le_of_eq (Nat.zero_add _)) (Nat.le_of_eq (Nat.zero_add _)) ?_
        refine q_bif_eq (tgt := 26) (pc2 := 16) d_X_judge_13 rfl rfl (fun c13 => ?_) (fun c13 => ?_)
        · refine r_aload_n (x := some 0) (pc2 := 27) d_X_judge_26 rfl rfl ?_
          refine r_bipush (v := (-32 : Int32)) (pc2 := 29) d_X_judge_27 rfl (by decide) ?_
          refine q_callv (M2 := mi_X_refuse) (pc2 := 32) d_X_judge_29 rfl k_X_75 cm_X_refuse cv_X_refuse (sh_0 hS) (by decide) rfl rfl rfl (Nat.le_of_ble_eq_true rfl) (c_X_refuse_0 (J := I) hS hR) (d2 := d - 1) (by omega) (Nat.le_of_eq (Nat.zero_add _)) (Nat.le_of_eq (Nat.zero_add _)) ?_
          obtain ⟨I14, hI14⟩ : ∃ x, x = u2 I 744 0 (I 744 0 + nI 1) := ⟨_, rfl⟩
          rw [← hI14]
          refine Run.ret (some (.int ((-32 : Int32)))) d_X_judge_32 ⟨_, rfl⟩ ?_
          first | (exfalso; omega) | exact XP.bad hS 0 (by unfold o_judge; (try simp only [esN, hzi, efN, b0fN, b1fN, b2fN, b3fN, b4fN, b5fN, b6fN, b8fN, b9fN, Int.toNat_natCast]); (repeat (first | rw [if_pos (by omega)] | rw [if_neg (by omega)]))) (by decide) FrXR.rf FrX.rf hI14
        · refine r_iload_n (pc2 := 17) d_X_judge_16 rfl rfl ?_
          refine q_if_lt (tgt := 26) (A := n.toInt) (pc2 := 20) d_X_judge_17 rfl rfl (rfl) (fun c15 => ?_) (fun c15 => ?_)
          · refine r_aload_n (x := some 0) (pc2 := 27) d_X_judge_26 rfl rfl ?_
            refine r_bipush (v := (-32 : Int32)) (pc2 := 29) d_X_judge_27 rfl (by decide) ?_
            refine q_callv (M2 := mi_X_refuse) (pc2 := 32) d_X_judge_29 rfl k_X_75 cm_X_refuse cv_X_refuse (sh_0 hS) (by decide) rfl rfl rfl (Nat.le_of_ble_eq_true rfl) (c_X_refuse_0 (J := I) hS hR) (d2 := d - 1) (by omega) (Nat.le_of_eq (Nat.zero_add _)) (Nat.le_of_eq (Nat.zero_add _)) ?_
            obtain ⟨I16, hI16⟩ : ∃ x, x = u2 I 744 0 (I 744 0 + nI 1) := ⟨_, rfl⟩
            rw [← hI16]
            refine Run.ret (some (.int ((-32 : Int32)))) d_X_judge_32 ⟨_, rfl⟩ ?_
            first | (exfalso; omega) | exact XP.bad hS 0 (by unfold o_judge; (try simp only [esN, hzi, efN, b0fN, b1fN, b2fN, b3fN, b4fN, b5fN, b6fN, b8fN, b9fN, Int.toNat_natCast]); (repeat (first | rw [if_pos (by omega)] | rw [if_neg (by omega)]))) (by decide) FrXR.rf FrX.rf hI16
          · refine r_iload_n (pc2 := 21) d_X_judge_20 rfl rfl ?_
            refine r_bipush (v := nI 20) (pc2 := 23) d_X_judge_21 rfl (by decide) ?_
            refine q_icmp_le (tgt := 33) (A := n.toInt) (B := (20 : Int)) (pc2 := 26) d_X_judge_23 rfl rfl (rfl) (nI_toInt (by omega)) (fun c17 => ?_) (fun c17 => ?_)
            · obtain ⟨nN, hnN, rfl, enN⟩ : ∃ a : Nat, a ≤ 20 ∧ n = nI a ∧ n.toInt = (a : Int) := ⟨n.toInt.toNat, by omega, eq_nI (by omega), by omega⟩
              refine r_aload_n (x := some 0) (pc2 := 34) d_X_judge_33 rfl rfl ?_
              refine r_iload_n (pc2 := 35) d_X_judge_34 rfl rfl ?_
              refine q_callv (M2 := mi_X_rowTrouble) (pc2 := 38) d_X_judge_35 rfl k_X_83 cm_X_rowTrouble cv_X_rowTrouble (sh_0 hS) (by decide) rfl rfl rfl (Nat.le_of_ble_eq_true rfl) (c_X_rowTrouble hS hR hV hH (s := sN) (by omega) (by omega)) (d2 := d - 1) (by omega) (Nat.le_of_eq (Nat.zero_add _)) (Nat.le_of_eq (Nat.zero_add _)) ?_
              refine q_top (y := nI 0) hrt ?_
              refine r_istore (pc2 := 40) d_X_judge_38 rfl (Nat.le_of_ble_eq_true rfl) ?_
              refine r_iload (pc2 := 42) d_X_judge_40 rfl rfl ?_
              refine q_if_eq (tgt := 52) (A := (0 : Int)) (pc2 := 45) d_X_judge_42 rfl rfl (nI_toInt (by omega)) (fun c18 => ?_) (fun c18 => ?_)
              rotate_left
              · exfalso; omega
              refine r_aload_n (x := some 0) (pc2 := 53) d_X_judge_52 rfl rfl ?_
              refine q_getR (x := some 729) (pc2 := 56) d_X_judge_53 rfl k_X_42 rfl (sh_0 hS) (rf_0_7 hR) ?_
              refine r_iload_n (pc2 := 57) d_X_judge_56 rfl rfl ?_
              refine q_aaload (q := sN) (x := some (745 + 2 * sN)) (pc2 := 58) d_X_judge_57 rfl (sh_729 hS) (by decide) (by decide) (nI_toInt (by omega)) (by omega) ((rf_sf hR (show sN < 8 by omega)).1) ?_
              refine r_astore (x := some (745 + 2 * sN)) (pc2 := 60) d_X_judge_58 rfl (Nat.le_of_ble_eq_true rfl) ?_
              refine r_aload (x := some (745 + 2 * sN)) (pc2 := 62) d_X_judge_60 rfl rfl ?_
              refine q_getI (x := nI zz) (pc2 := 65) d_X_judge_62 rfl k_X_86 (by decide) (sh_sf hS (show sN < 8 by omega)).1 (h1.trans hz) ?_
              refine r_iconst (v := nI 2) (pc2 := 66) d_X_judge_65 rfl (by decide) ?_
              refine r_iload_n (pc2 := 67) d_X_judge_66 rfl rfl ?_
              refine q_imulN (pc2 := 68) d_X_judge_67 rfl ?_
              refine q_icmp_ge (tgt := 78) (A := ((zz : Nat) : Int)) (B := ((2 * nN : Nat) : Int)) (pc2 := 71) d_X_judge_68 rfl rfl (nI_toInt (by omega)) (nI_toInt (by omega)) (fun c19 => ?_) (fun c19 => ?_)
              · refine r_aload_n (x := some 0) (pc2 := 79) d_X_judge_78 rfl rfl ?_
                refine r_aload (x := some (745 + 2 * sN)) (pc2 := 81) d_X_judge_79 rfl rfl ?_
                refine r_iload_n (pc2 := 82) d_X_judge_81 rfl rfl ?_
                refine q_callv (M2 := mi_X_hasPersons) (pc2 := 85) d_X_judge_82 rfl k_X_390 cm_X_hasPersons cv_X_hasPersons (sh_0 hS) (by decide) rfl rfl rfl (Nat.le_of_ble_eq_true rfl) (c_X_hasPersons hS hR hV hV2 hnt6 hW hWT hKW hrk hD (s := sN) (n := nN) (z := zz) (by omega) hL (h1.trans hz) hz40 (by omega) (by omega)) (d2 := d - 1) (by omega) (Nat.le_of_eq (Nat.zero_add _)) (Nat.le_of_eq (Nat.zero_add _)) ?_
                cases hfo : fst1 (fun k => (pJ G nP (E (40 * sN + 2 * k))).isNone) nN with
                | none =>
                  refine q_top (y := nI 1) (bI_t rfl) ?_
                  have hall := fst1_not hfo
                  refine q_if_ne (tgt := 95) (A := (1 : Int)) (pc2 := 88) d_X_judge_85 rfl rfl (nI_toInt (by omega)) (fun c20 => ?_) (fun c20 => ?_)
                  rotate_left
                  · exfalso; omega
                  refine r_aload_n (x := some 0) (pc2 := 96) d_X_judge_95 rfl rfl ?_
                  refine r_iload_n (pc2 := 97) d_X_judge_96 rfl rfl ?_
                  refine r_aload (x := some (745 + 2 * sN)) (pc2 := 99) d_X_judge_97 rfl rfl ?_
                  refine r_iload_n (pc2 := 100) d_X_judge_99 rfl rfl ?_
                  refine r_callv (M2 := mi_X_firstUntrue) (pc2 := 103) d_X_judge_100 rfl k_X_394 cm_X_firstUntrue cv_X_firstUntrue (sh_0 hS) (by decide) rfl rfl rfl (Nat.le_of_ble_eq_true rfl) (c_X_firstUntrue hS hR hV hV2 hnt6 hW hWT hKW hrk hD (s := sN) (n := nN) (z := zz) (by omega) hL (h1.trans hz) hz40 (by omega) (F := fN) (by omega) hall (d := d - 1) (by omega)) (d2 := d - 1) (by omega) (Nat.le_of_eq (Nat.zero_add _)) (Nat.le_of_eq (Nat.zero_add _)) (fun r2 h2 hq2 => ?_)
                  obtain ⟨K21, rfl, rfl, hK21⟩ := hq2
                  change Run _ _ _ _ _ _ [.int (vo (fst1 (jP (TRK tK tF tC tS) G nP fN E (40 * sN)) nN))] _ _
                  refine Run.ret (some (.int (vo (fst1 (jP (TRK tK tF tC tS) G nP fN E (40 * sN)) nN)))) d_X_judge_103 ⟨_, rfl⟩ ?_
                  refine XP.val ?_ FrXR.rf hK21
                  unfold o_judge; (try simp only [esN, hzi, efN, b0fN, b1fN, b2fN, b3fN, b4fN, b5fN, b6fN, b8fN, b9fN, enN, Int.toNat_natCast]); (repeat (first | rw [if_pos (by omega)] | rw [if_neg (by omega)])); rw [hfo]
                | some j0 =>
                  refine q_top (y := nI 0) (bI_f (fun q => by cases q)) ?_
                  refine q_if_ne (tgt := 95) (A := (0 : Int)) (pc2 := 88) d_X_judge_85 rfl rfl (nI_toInt (by omega)) (fun c22 => ?_) (fun c22 => ?_)
                  · exfalso; omega
                  refine r_aload_n (x := some 0) (pc2 := 89) d_X_judge_88 rfl rfl ?_
                  refine r_bipush (v := (-35 : Int32)) (pc2 := 91) d_X_judge_89 rfl (by decide) ?_
                  refine q_callv (M2 := mi_X_refuse) (pc2 := 94) d_X_judge_91 rfl k_X_75 cm_X_refuse cv_X_refuse (sh_0 hS) (by decide) rfl rfl rfl (Nat.le_of_ble_eq_true rfl) (c_X_refuse_3 (J := I) hS hR) (d2 := d - 1) (by omega) (Nat.le_of_eq (Nat.zero_add _)) (Nat.le_of_eq (Nat.zero_add _)) ?_
                  obtain ⟨I23, hI23⟩ : ∃ x, x = u2 I 744 3 (I 744 3 + nI 1) := ⟨_, rfl⟩
                  rw [← hI23]
                  refine Run.ret (some (.int ((-35 : Int32)))) d_X_judge_94 ⟨_, rfl⟩ ?_
                  first | (exfalso; omega) | exact XP.bad hS 3 (by unfold o_judge; (try simp only [esN, hzi, efN, b0fN, b1fN, b2fN, b3fN, b4fN, b5fN, b6fN, b8fN, b9fN, enN, Int.toNat_natCast]); (repeat (first | rw [if_pos (by omega)] | rw [if_neg (by omega)])); rw [hfo]) (by decide) FrXR.rf FrX.rf hI23
              · refine r_aload_n (x := some 0) (pc2 := 72) d_X_judge_71 rfl rfl ?_
                refine r_bipush (v := (-32 : Int32)) (pc2 := 74) d_X_judge_72 rfl (by decide) ?_
                refine q_callv (M2 := mi_X_refuse) (pc2 := 77) d_X_judge_74 rfl k_X_75 cm_X_refuse cv_X_refuse (sh_0 hS) (by decide) rfl rfl rfl (Nat.le_of_ble_eq_true rfl) (c_X_refuse_0 (J := I) hS hR) (d2 := d - 1) (by omega) (Nat.le_of_eq (Nat.zero_add _)) (Nat.le_of_eq (Nat.zero_add _)) ?_
                obtain ⟨I24, hI24⟩ : ∃ x, x = u2 I 744 0 (I 744 0 + nI 1) := ⟨_, rfl⟩
                rw [← hI24]
                refine Run.ret (some (.int ((-32 : Int32)))) d_X_judge_77 ⟨_, rfl⟩ ?_
                first | (exfalso; omega) | exact XP.bad hS 0 (by unfold o_judge; (try simp only [esN, hzi, efN, b0fN, b1fN, b2fN, b3fN, b4fN, b5fN, b6fN, b8fN, b9fN, enN, Int.toNat_natCast]); (repeat (first | rw [if_pos (by omega)] | rw [if_neg (by omega)]))) (by decide) FrXR.rf FrX.rf hI24
            · refine r_aload_n (x := some 0) (pc2 := 27) d_X_judge_26 rfl rfl ?_
              refine r_bipush (v := (-32 : Int32)) (pc2 := 29) d_X_judge_27 rfl (by decide) ?_
              refine q_callv (M2 := mi_X_refuse) (pc2 := 32) d_X_judge_29 rfl k_X_75 cm_X_refuse cv_X_refuse (sh_0 hS) (by decide) rfl rfl rfl (Nat.le_of_ble_eq_true rfl) (c_X_refuse_0 (J := I) hS hR) (d2 := d - 1) (by omega) (Nat.le_of_eq (Nat.zero_add _)) (Nat.le_of_eq (Nat.zero_add _)) ?_
              obtain ⟨I25, hI25⟩ : ∃ x, x = u2 I 744 0 (I 744 0 + nI 1) := ⟨_, rfl⟩
              rw [← hI25]
              refine Run.ret (some (.int ((-32 : Int32)))) d_X_judge_32 ⟨_, rfl⟩ ?_
              first | (exfalso; omega) | exact XP.bad hS 0 (by unfold o_judge; (try simp only [esN, hzi, efN, b0fN, b1fN, b2fN, b3fN, b4fN, b5fN, b6fN, b8fN, b9fN, Int.toNat_natCast]); (repeat (first | rw [if_pos (by omega)] | rw [if_neg (by omega)]))) (by decide) FrXR.rf FrX.rf hI25
    · obtain ⟨ha, hk3, hk8⟩ := SH1.ci hV (show bb + nn < nt by omega) hso
      have hrt : rtN (so sN) = -33 := by unfold rtN; rw [if_pos (by omega)]
      have hmm := hco.2.2.1.2
      refine r_aload_n (x := some 0) (pc2 := 1) d_X_judge_0 rfl rfl ?_
      refine r_iload_n (pc2 := 2) d_X_judge_1 rfl rfl ?_
      refine q_callv (M2 := mi_X_isFeature) (pc2 := 5) d_X_judge_2 rfl k_X_220 cm_X_isFeature cv_X_isFeature (sh_0 hS) (by decide) rfl rfl rfl (Nat.le_of_ble_eq_true rfl) (c_X_isFeature (f := f) hS hR hV hV2 hnt6 hW hWT hKW hrk hD) (d2 := d - 1) (by omega) (Nat.le_of_eq (Nat.zero_add _)) (Nat.le_of_eq (Nat.zero_add _)) ?_
      refine q_bif_eq (tgt := 26) (pc2 := 8) d_X_judge_5 rfl rfl (fun c26 => ?_) (fun c26 => ?_)
      · refine r_aload_n (x := some 0) (pc2 := 27) d_X_judge_26 rfl rfl ?_
        refine r_bipush (v := (-32 : Int32)) (pc2 := 29) d_X_judge_27 rfl (by decide) ?_
        refine q_callv (M2 := mi_X_refuse) (pc2 := 32) d_X_judge_29 rfl k_X_75 cm_X_refuse cv_X_refuse (sh_0 hS) (by decide) rfl rfl rfl (Nat.le_of_ble_eq_true rfl) (c_X_refuse_0 (J := I) hS hR) (d2 := d - 1) (by omega) (Nat.le_of_eq (Nat.zero_add _)) (Nat.le_of_eq (Nat.zero_add _)) ?_
        obtain ⟨I27, hI27⟩ : ∃ x, x = u2 I 744 0 (I 744 0 + nI 1) := ⟨_, rfl⟩
        rw [← hI27]
        refine Run.ret (some (.int ((-32 : Int32)))) d_X_judge_32 ⟨_, rfl⟩ ?_
        first | (exfalso; omega) | exact XP.bad hS 0 (by unfold o_judge; (try simp only [esN, Int.toNat_natCast]); (repeat (first | rw [if_pos (by omega)] | rw [if_neg (by omega)]))) (by decide) FrXR.rf FrX.rf hI27
      · obtain ⟨fN, hfN, rfl, efN⟩ := nat_of c26
        obtain ⟨tpfN, klfN, skfN, fbfN, nRfN, nNfN, nOfN, frfN, tofN, ⟨a0fN, b0fN, cc0fN, dd0fN⟩, ⟨a1fN, b1fN, cc1fN, dd1fN⟩, ⟨a2fN, b2fN, cc2fN, dd2fN⟩, ⟨a3fN, b3fN, cc3fN, dd3fN⟩, ⟨a4fN, b4fN, cc4fN, dd4fN⟩, ⟨a5fN, b5fN, cc5fN, dd5fN⟩, ⟨a6fN, b6fN, cc6fN, dd6fN⟩, ⟨a8fN, b8fN, cc8fN, dd8fN⟩, ⟨a9fN, b9fN, cc9fN, dd9fN⟩⟩ := wfn (hWF fN (by omega))
        obtain ⟨-, -, -, -, -, -, -, w7fN, -, -, wNfN, wRfN, wKfN, wOfN⟩ := hWF fN (by omega)
        obtain ⟨⟨x0fN, x1fN, x2fN, x3fN, x4fN, x5fN, x6fN, x7fN, x8fN⟩, xnfN, xofN, xkfN, xcfN, xrfN⟩ := hD.2.2.2.1 fN (by omega)
        have hflfN := fe_lt (e := 0) (by decide) (show fN < 12 by omega)
        unfold dk at hflfN
        refine r_aload_n (x := some 0) (pc2 := 9) d_X_judge_8 rfl rfl ?_
        refine r_iload_n (pc2 := 10) d_X_judge_9 rfl rfl ?_
        refine q_callv (M2 := mi_X_isShelf) (pc2 := 13) d_X_judge_10 rfl k_X_71 cm_X_isShelf cv_X_isShelf (sh_0 hS) (by decide) rfl rfl rfl (Nat.le_of_ble_eq_true rfl) (c_X_isShelf (s := nI sN)) (d2 := d - 1) (by omega) (Nat.le_of_eq (Nat.zero_add _)) (Nat.le_of_eq (Nat.zero_add _)) ?_
        refine q_bif_eq (tgt := 26) (pc2 := 16) d_X_judge_13 rfl rfl (fun c28 => ?_) (fun c28 => ?_)
        · refine r_aload_n (x := some 0) (pc2 := 27) d_X_judge_26 rfl rfl ?_
          refine r_bipush (v := (-32 : Int32)) (pc2 := 29) d_X_judge_27 rfl (by decide) ?_
          refine q_callv (M2 := mi_X_refuse) (pc2 := 32) d_X_judge_29 rfl k_X_75 cm_X_refuse cv_X_refuse (sh_0 hS) (by decide) rfl rfl rfl (Nat.le_of_ble_eq_true rfl) (c_X_refuse_0 (J := I) hS hR) (d2 := d - 1) (by omega) (Nat.le_of_eq (Nat.zero_add _)) (Nat.le_of_eq (Nat.zero_add _)) ?_
          obtain ⟨I29, hI29⟩ : ∃ x, x = u2 I 744 0 (I 744 0 + nI 1) := ⟨_, rfl⟩
          rw [← hI29]
          refine Run.ret (some (.int ((-32 : Int32)))) d_X_judge_32 ⟨_, rfl⟩ ?_
          first | (exfalso; omega) | exact XP.bad hS 0 (by unfold o_judge; (try simp only [esN, efN, b0fN, b1fN, b2fN, b3fN, b4fN, b5fN, b6fN, b8fN, b9fN, Int.toNat_natCast]); (repeat (first | rw [if_pos (by omega)] | rw [if_neg (by omega)]))) (by decide) FrXR.rf FrX.rf hI29
        · refine r_iload_n (pc2 := 17) d_X_judge_16 rfl rfl ?_
          refine q_if_lt (tgt := 26) (A := n.toInt) (pc2 := 20) d_X_judge_17 rfl rfl (rfl) (fun c30 => ?_) (fun c30 => ?_)
          · refine r_aload_n (x := some 0) (pc2 := 27) d_X_judge_26 rfl rfl ?_
            refine r_bipush (v := (-32 : Int32)) (pc2 := 29) d_X_judge_27 rfl (by decide) ?_
            refine q_callv (M2 := mi_X_refuse) (pc2 := 32) d_X_judge_29 rfl k_X_75 cm_X_refuse cv_X_refuse (sh_0 hS) (by decide) rfl rfl rfl (Nat.le_of_ble_eq_true rfl) (c_X_refuse_0 (J := I) hS hR) (d2 := d - 1) (by omega) (Nat.le_of_eq (Nat.zero_add _)) (Nat.le_of_eq (Nat.zero_add _)) ?_
            obtain ⟨I31, hI31⟩ : ∃ x, x = u2 I 744 0 (I 744 0 + nI 1) := ⟨_, rfl⟩
            rw [← hI31]
            refine Run.ret (some (.int ((-32 : Int32)))) d_X_judge_32 ⟨_, rfl⟩ ?_
            first | (exfalso; omega) | exact XP.bad hS 0 (by unfold o_judge; (try simp only [esN, efN, b0fN, b1fN, b2fN, b3fN, b4fN, b5fN, b6fN, b8fN, b9fN, Int.toNat_natCast]); (repeat (first | rw [if_pos (by omega)] | rw [if_neg (by omega)]))) (by decide) FrXR.rf FrX.rf hI31
          · refine r_iload_n (pc2 := 21) d_X_judge_20 rfl rfl ?_
            refine r_bipush (v := nI 20) (pc2 := 23) d_X_judge_21 rfl (by decide) ?_
            refine q_icmp_le (tgt := 33) (A := n.toInt) (B := (20 : Int)) (pc2 := 26) d_X_judge_23 rfl rfl (rfl) (nI_toInt (by omega)) (fun c32 => ?_) (fun c32 => ?_)
            · obtain ⟨nN, hnN, rfl, enN⟩ : ∃ a : Nat, a ≤ 20 ∧ n = nI a ∧ n.toInt = (a : Int) := ⟨n.toInt.toNat, by omega, eq_nI (by omega), by omega⟩
              refine r_aload_n (x := some 0) (pc2 := 34) d_X_judge_33 rfl rfl ?_
              refine r_iload_n (pc2 := 35) d_X_judge_34 rfl rfl ?_
              refine q_callv (M2 := mi_X_rowTrouble) (pc2 := 38) d_X_judge_35 rfl k_X_83 cm_X_rowTrouble cv_X_rowTrouble (sh_0 hS) (by decide) rfl rfl rfl (Nat.le_of_ble_eq_true rfl) (c_X_rowTrouble hS hR hV hH (s := sN) (by omega) (by omega)) (d2 := d - 1) (by omega) (Nat.le_of_eq (Nat.zero_add _)) (Nat.le_of_eq (Nat.zero_add _)) ?_
              refine q_top (y := (-33 : Int32)) hrt ?_
              refine r_istore (pc2 := 40) d_X_judge_38 rfl (Nat.le_of_ble_eq_true rfl) ?_
              refine r_iload (pc2 := 42) d_X_judge_40 rfl rfl ?_
              refine q_if_eq (tgt := 52) (A := (-33 : Int)) (pc2 := 45) d_X_judge_42 rfl rfl (by decide) (fun c33 => ?_) (fun c33 => ?_)
              · exfalso; omega
              refine r_aload_n (x := some 0) (pc2 := 46) d_X_judge_45 rfl rfl ?_
              refine r_iload (pc2 := 48) d_X_judge_46 rfl rfl ?_
              refine q_callv (M2 := mi_X_refuse) (pc2 := 51) d_X_judge_48 rfl k_X_75 cm_X_refuse cv_X_refuse (sh_0 hS) (by decide) rfl rfl rfl (Nat.le_of_ble_eq_true rfl) (c_X_refuse_1 (J := I) hS hR) (d2 := d - 1) (by omega) (Nat.le_of_eq (Nat.zero_add _)) (Nat.le_of_eq (Nat.zero_add _)) ?_
              obtain ⟨I34, hI34⟩ : ∃ x, x = u2 I 744 1 (I 744 1 + nI 1) := ⟨_, rfl⟩
              rw [← hI34]
              refine Run.ret (some (.int ((-33 : Int32)))) d_X_judge_51 ⟨_, rfl⟩ ?_
              first | (exfalso; omega) | exact XP.bad hS 1 (by unfold o_judge; (try simp only [esN, efN, b0fN, b1fN, b2fN, b3fN, b4fN, b5fN, b6fN, b8fN, b9fN, enN, Int.toNat_natCast]); (repeat (first | rw [if_pos (by omega)] | rw [if_neg (by omega)]))) (by decide) FrXR.rf FrX.rf hI34
            · refine r_aload_n (x := some 0) (pc2 := 27) d_X_judge_26 rfl rfl ?_
              refine r_bipush (v := (-32 : Int32)) (pc2 := 29) d_X_judge_27 rfl (by decide) ?_
              refine q_callv (M2 := mi_X_refuse) (pc2 := 32) d_X_judge_29 rfl k_X_75 cm_X_refuse cv_X_refuse (sh_0 hS) (by decide) rfl rfl rfl (Nat.le_of_ble_eq_true rfl) (c_X_refuse_0 (J := I) hS hR) (d2 := d - 1) (by omega) (Nat.le_of_eq (Nat.zero_add _)) (Nat.le_of_eq (Nat.zero_add _)) ?_
              obtain ⟨I35, hI35⟩ : ∃ x, x = u2 I 744 0 (I 744 0 + nI 1) := ⟨_, rfl⟩
              rw [← hI35]
              refine Run.ret (some (.int ((-32 : Int32)))) d_X_judge_32 ⟨_, rfl⟩ ?_
              first | (exfalso; omega) | exact XP.bad hS 0 (by unfold o_judge; (try simp only [esN, efN, b0fN, b1fN, b2fN, b3fN, b4fN, b5fN, b6fN, b8fN, b9fN, Int.toNat_natCast]); (repeat (first | rw [if_pos (by omega)] | rw [if_neg (by omega)]))) (by decide) FrXR.rf FrX.rf hI35
  · skip
    refine r_aload_n (x := some 0) (pc2 := 1) d_X_judge_0 rfl rfl ?_
    refine r_iload_n (pc2 := 2) d_X_judge_1 rfl rfl ?_
    refine q_callv (M2 := mi_X_isFeature) (pc2 := 5) d_X_judge_2 rfl k_X_220 cm_X_isFeature cv_X_isFeature (sh_0 hS) (by decide) rfl rfl rfl (Nat.le_of_ble_eq_true rfl) (c_X_isFeature (f := f) hS hR hV hV2 hnt6 hW hWT hKW hrk hD) (d2 := d - 1) (by omega) (Nat.le_of_eq (Nat.zero_add _)) (Nat.le_of_eq (Nat.zero_add _)) ?_
    refine q_bif_eq (tgt := 26) (pc2 := 8) d_X_judge_5 rfl rfl (fun c36 => ?_) (fun c36 => ?_)
    · refine r_aload_n (x := some 0) (pc2 := 27) d_X_judge_26 rfl rfl ?_
      refine r_bipush (v := (-32 : Int32)) (pc2 := 29) d_X_judge_27 rfl (by decide) ?_
      refine q_callv (M2 := mi_X_refuse) (pc2 := 32) d_X_judge_29 rfl k_X_75 cm_X_refuse cv_X_refuse (sh_0 hS) (by decide) rfl rfl rfl (Nat.le_of_ble_eq_true rfl) (c_X_refuse_0 (J := I) hS hR) (d2 := d - 1) (by omega) (Nat.le_of_eq (Nat.zero_add _)) (Nat.le_of_eq (Nat.zero_add _)) ?_
      obtain ⟨I37, hI37⟩ : ∃ x, x = u2 I 744 0 (I 744 0 + nI 1) := ⟨_, rfl⟩
      rw [← hI37]
      refine Run.ret (some (.int ((-32 : Int32)))) d_X_judge_32 ⟨_, rfl⟩ ?_
      first | (exfalso; omega) | exact XP.bad hS 0 (by unfold o_judge; (try simp only [Int.toNat_natCast]); (repeat (first | rw [if_pos (by omega)] | rw [if_neg (by omega)]))) (by decide) FrXR.rf FrX.rf hI37
    · obtain ⟨fN, hfN, rfl, efN⟩ := nat_of c36
      obtain ⟨tpfN, klfN, skfN, fbfN, nRfN, nNfN, nOfN, frfN, tofN, ⟨a0fN, b0fN, cc0fN, dd0fN⟩, ⟨a1fN, b1fN, cc1fN, dd1fN⟩, ⟨a2fN, b2fN, cc2fN, dd2fN⟩, ⟨a3fN, b3fN, cc3fN, dd3fN⟩, ⟨a4fN, b4fN, cc4fN, dd4fN⟩, ⟨a5fN, b5fN, cc5fN, dd5fN⟩, ⟨a6fN, b6fN, cc6fN, dd6fN⟩, ⟨a8fN, b8fN, cc8fN, dd8fN⟩, ⟨a9fN, b9fN, cc9fN, dd9fN⟩⟩ := wfn (hWF fN (by omega))
      obtain ⟨-, -, -, -, -, -, -, w7fN, -, -, wNfN, wRfN, wKfN, wOfN⟩ := hWF fN (by omega)
      obtain ⟨⟨x0fN, x1fN, x2fN, x3fN, x4fN, x5fN, x6fN, x7fN, x8fN⟩, xnfN, xofN, xkfN, xcfN, xrfN⟩ := hD.2.2.2.1 fN (by omega)
      have hflfN := fe_lt (e := 0) (by decide) (show fN < 12 by omega)
      unfold dk at hflfN
      refine r_aload_n (x := some 0) (pc2 := 9) d_X_judge_8 rfl rfl ?_
      refine r_iload_n (pc2 := 10) d_X_judge_9 rfl rfl ?_
      refine q_callv (M2 := mi_X_isShelf) (pc2 := 13) d_X_judge_10 rfl k_X_71 cm_X_isShelf cv_X_isShelf (sh_0 hS) (by decide) rfl rfl rfl (Nat.le_of_ble_eq_true rfl) (c_X_isShelf (s := s)) (d2 := d - 1) (by omega) (Nat.le_of_eq (Nat.zero_add _)) (Nat.le_of_eq (Nat.zero_add _)) ?_
      refine q_bif_eq (tgt := 26) (pc2 := 16) d_X_judge_13 rfl rfl (fun c38 => ?_) (fun c38 => ?_)
      · refine r_aload_n (x := some 0) (pc2 := 27) d_X_judge_26 rfl rfl ?_
        refine r_bipush (v := (-32 : Int32)) (pc2 := 29) d_X_judge_27 rfl (by decide) ?_
        refine q_callv (M2 := mi_X_refuse) (pc2 := 32) d_X_judge_29 rfl k_X_75 cm_X_refuse cv_X_refuse (sh_0 hS) (by decide) rfl rfl rfl (Nat.le_of_ble_eq_true rfl) (c_X_refuse_0 (J := I) hS hR) (d2 := d - 1) (by omega) (Nat.le_of_eq (Nat.zero_add _)) (Nat.le_of_eq (Nat.zero_add _)) ?_
        obtain ⟨I39, hI39⟩ : ∃ x, x = u2 I 744 0 (I 744 0 + nI 1) := ⟨_, rfl⟩
        rw [← hI39]
        refine Run.ret (some (.int ((-32 : Int32)))) d_X_judge_32 ⟨_, rfl⟩ ?_
        first | (exfalso; omega) | exact XP.bad hS 0 (by unfold o_judge; (try simp only [efN, b0fN, b1fN, b2fN, b3fN, b4fN, b5fN, b6fN, b8fN, b9fN, Int.toNat_natCast]); (repeat (first | rw [if_pos (by omega)] | rw [if_neg (by omega)]))) (by decide) FrXR.rf FrX.rf hI39
      · refine r_iload_n (pc2 := 17) d_X_judge_16 rfl rfl ?_
        refine q_if_lt (tgt := 26) (A := n.toInt) (pc2 := 20) d_X_judge_17 rfl rfl (rfl) (fun c40 => ?_) (fun c40 => ?_)
        · refine r_aload_n (x := some 0) (pc2 := 27) d_X_judge_26 rfl rfl ?_
          refine r_bipush (v := (-32 : Int32)) (pc2 := 29) d_X_judge_27 rfl (by decide) ?_
          refine q_callv (M2 := mi_X_refuse) (pc2 := 32) d_X_judge_29 rfl k_X_75 cm_X_refuse cv_X_refuse (sh_0 hS) (by decide) rfl rfl rfl (Nat.le_of_ble_eq_true rfl) (c_X_refuse_0 (J := I) hS hR) (d2 := d - 1) (by omega) (Nat.le_of_eq (Nat.zero_add _)) (Nat.le_of_eq (Nat.zero_add _)) ?_
          obtain ⟨I41, hI41⟩ : ∃ x, x = u2 I 744 0 (I 744 0 + nI 1) := ⟨_, rfl⟩
          rw [← hI41]
          refine Run.ret (some (.int ((-32 : Int32)))) d_X_judge_32 ⟨_, rfl⟩ ?_
          first | (exfalso; omega) | exact XP.bad hS 0 (by unfold o_judge; (try simp only [efN, b0fN, b1fN, b2fN, b3fN, b4fN, b5fN, b6fN, b8fN, b9fN, Int.toNat_natCast]); (repeat (first | rw [if_pos (by omega)] | rw [if_neg (by omega)]))) (by decide) FrXR.rf FrX.rf hI41
        · refine r_iload_n (pc2 := 21) d_X_judge_20 rfl rfl ?_
          refine r_bipush (v := nI 20) (pc2 := 23) d_X_judge_21 rfl (by decide) ?_
          refine q_icmp_le (tgt := 33) (A := n.toInt) (B := (20 : Int)) (pc2 := 26) d_X_judge_23 rfl rfl (rfl) (nI_toInt (by omega)) (fun c42 => ?_) (fun c42 => ?_)
          · exfalso; omega
          · refine r_aload_n (x := some 0) (pc2 := 27) d_X_judge_26 rfl rfl ?_
            refine r_bipush (v := (-32 : Int32)) (pc2 := 29) d_X_judge_27 rfl (by decide) ?_
            refine q_callv (M2 := mi_X_refuse) (pc2 := 32) d_X_judge_29 rfl k_X_75 cm_X_refuse cv_X_refuse (sh_0 hS) (by decide) rfl rfl rfl (Nat.le_of_ble_eq_true rfl) (c_X_refuse_0 (J := I) hS hR) (d2 := d - 1) (by omega) (Nat.le_of_eq (Nat.zero_add _)) (Nat.le_of_eq (Nat.zero_add _)) ?_
            obtain ⟨I43, hI43⟩ : ∃ x, x = u2 I 744 0 (I 744 0 + nI 1) := ⟨_, rfl⟩
            rw [← hI43]
            refine Run.ret (some (.int ((-32 : Int32)))) d_X_judge_32 ⟨_, rfl⟩ ?_
            first | (exfalso; omega) | exact XP.bad hS 0 (by unfold o_judge; (try simp only [efN, b0fN, b1fN, b2fN, b3fN, b4fN, b5fN, b6fN, b8fN, b9fN, Int.toNat_natCast]); (repeat (first | rw [if_pos (by omega)] | rw [if_neg (by omega)]))) (by decide) FrXR.rf FrX.rf hI43
