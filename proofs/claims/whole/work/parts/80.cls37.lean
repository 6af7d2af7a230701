/-! THE CLASS: grow -/
theorem u1_ov {G : Nat → Int32} {i : Nat} {v w : Int32} : u1 (u1 G i v) i w = u1 G i w := by
  funext j
  by_cases e : j = i
  · subst e; rw [u1_i, u1_i]
  · rw [u1_o e, u1_o e, u1_o e]
theorem u1_id {G : Nat → Int32} {i : Nat} : u1 G i (G i) = G := by
  funext j
  by_cases e : j = i
  · subst e; rw [u1_i]
  · rw [u1_o e]
theorem lpN_le {tr : Int32 → Nat → Nat → Bool} {G : Nat → Int32} {F r k p : Nat} : lpN tr G F r k p ≤ 1001 := by
  have := bkt_rng (nI (F + 1)) (G (6 + 2 * p))
  unfold lpN
  split
  · omega
  · split
    · omega
    · omega
theorem l_X_reachedBy {d : Nat} {J : Nat → Nat → Int32} {R : Nat → Nat → Option Nat} {L : Nat → Nat → Int64} {sh : Nat → Nat × Nat} {N : Nat} (hS : ShOK sh) (hR : RfOK R) {nP : Nat} (hn : J 2 2 = nI nP) (hP24 : nP ≤ 24) {Lp : Nat → Nat} (hL : ∀ q, q < nP → J 728 q = nI (Lp q)) (hle : ∀ q, q < nP → Lp q ≤ 1001) {v : Nat} (hv : v ≤ 333) {P : Nat → Bool} (hP : ∀ p, P p = decide (Lp p ≤ v)) {Q : Option Value → HS → Prop} (hq : Q (some (.int (nI (cnt P nP)))) (J, R, L, sh, N)) : ∀ (n_ : Nat) (i : Nat), nP - i = n_ → (i ≤ nP) → Run mi_X_reachedBy d 0 0 4 [(0, .ref 0), (1, .int (nI v)), (2, .int (nI (cnt P i))), (3, .int (nI i))] [] (J, R, L, sh, N) Q := by
  intro n_
  induction n_ using Nat.strongRecOn with | ind n_ ih_ => ?_
  intro i hn_ v0_
  refine r_iload_n (pc2 := 5) d_X_reachedBy_4 rfl rfl ?_
  refine r_aload_n (x := some 0) (pc2 := 6) d_X_reachedBy_5 rfl rfl ?_
  refine q_getR (x := some 1) (pc2 := 9) d_X_reachedBy_6 rfl k_X_12 rfl (sh_0 hS) (rf_0_0 hR) ?_
  refine q_getR (x := some 2) (pc2 := 12) d_X_reachedBy_9 rfl k_X_179 rfl (sh_1 hS) (rf_1_0 hR) ?_
  refine q_getI (x := nI nP) (pc2 := 15) d_X_reachedBy_12 rfl k_X_189 (by decide) (sh_2 hS) hn ?_
  refine q_icmp_ge (tgt := 37) (A := ((i : Nat) : Int)) (B := ((nP : Nat) : Int)) (pc2 := 18) d_X_reachedBy_15 rfl rfl (nI_toInt (by omega)) (nI_toInt (by omega)) (fun c1 => ?_) (fun c1 => ?_)
  · refine r_iload_n (pc2 := 38) d_X_reachedBy_37 rfl rfl ?_
    refine Run.ret (some (.int (nI (cnt P i)))) d_X_reachedBy_38 ⟨_, rfl⟩ ?_
    rw [show i = nP by omega]; exact hq
  · have hli := hle i (by omega)
    refine r_aload_n (x := some 0) (pc2 := 19) d_X_reachedBy_18 rfl rfl ?_
    refine q_getR (x := some 728) (pc2 := 22) d_X_reachedBy_19 rfl k_X_36 rfl (sh_0 hS) (rf_0_6 hR) ?_
    refine r_iload_n (pc2 := 23) d_X_reachedBy_22 rfl rfl ?_
    refine q_iaload (q := i) (x := nI (Lp i)) (pc2 := 24) d_X_reachedBy_23 rfl (sh_728 hS) (nI_toInt (by omega)) (by omega) (hL i (by omega)) ?_
    refine r_iload_n (pc2 := 25) d_X_reachedBy_24 rfl rfl ?_
    refine q_icmp_gt (tgt := 31) (A := ((Lp i : Nat) : Int)) (B := ((v : Nat) : Int)) (pc2 := 28) d_X_reachedBy_25 rfl rfl (nI_toInt (by omega)) (nI_toInt (by omega)) (fun c2 => ?_) (fun c2 => ?_)
    · refine q_iinc (b := 1) (pc2 := 34) d_X_reachedBy_31 rfl rfl (by decide) (Nat.le_of_ble_eq_true rfl) ?_
      refine r_goto (tgt := 4) d_X_reachedBy_34 rfl ?_
      rw [show nI (cnt P i) = nI (cnt P (i + 1)) from by rw [cnt_s, if_neg (by rw [hP]; simp only [decide_eq_true_eq]; omega)]; rfl]
      refine Run.sub (l2 := [(0, .ref 0), (1, .int (nI v)), (2, .int (nI (cnt P (i + 1)))), (3, .int (nI (i + 1)))]) ⟨rfl, rfl, rfl, rfl, trivial⟩ ?_
      exact ih_ (nP - (i + 1)) (by omega) (i + 1) rfl (by omega)
    · refine q_iinc (b := 1) (pc2 := 31) d_X_reachedBy_28 rfl rfl (by decide) (Nat.le_of_ble_eq_true rfl) ?_
      refine q_iinc (b := 1) (pc2 := 34) d_X_reachedBy_31 rfl rfl (by decide) (Nat.le_of_ble_eq_true rfl) ?_
      refine r_goto (tgt := 4) d_X_reachedBy_34 rfl ?_
      rw [show nI (cnt P i + 1) = nI (cnt P (i + 1)) from by rw [cnt_s, if_pos (by rw [hP]; simp only [decide_eq_true_eq]; omega)]]
      refine Run.sub (l2 := [(0, .ref 0), (1, .int (nI v)), (2, .int (nI (cnt P (i + 1)))), (3, .int (nI (i + 1)))]) ⟨rfl, rfl, rfl, rfl, trivial⟩ ?_
      exact ih_ (nP - (i + 1)) (by omega) (i + 1) rfl (by omega)
theorem c_X_reachedBy {d : Nat} {J : Nat → Nat → Int32} {R : Nat → Nat → Option Nat} {L : Nat → Nat → Int64} {sh : Nat → Nat × Nat} {N : Nat} (hS : ShOK sh) (hR : RfOK R) {nP : Nat} (hn : J 2 2 = nI nP) (hP24 : nP ≤ 24) {Lp : Nat → Nat} (hL : ∀ q, q < nP → J 728 q = nI (Lp q)) (hle : ∀ q, q < nP → Lp q ≤ 1001) {v : Nat} (hv : v ≤ 333) : Me mi_X_reachedBy d 0 0 [.ref 0, .int (nI v)] (J, R, L, sh, N) (some (.int (nI (cnt (fun p => decide (Lp p ≤ v)) nP)))) (J, R, L, sh, N) := by
  refine Mt.of pn_X (Nat.le_of_ble_eq_true rfl) ?_
  show Run mi_X_reachedBy d 0 0 0 [(0, .ref 0), (1, .int (nI v))] [] (J, R, L, sh, N) _
  refine r_iconst (v := nI 0) (pc2 := 1) d_X_reachedBy_0 rfl (by decide) ?_
  refine r_istore_n (pc2 := 2) d_X_reachedBy_1 rfl rfl (Nat.le_of_ble_eq_true rfl) ?_
  refine r_iconst (v := nI 0) (pc2 := 3) d_X_reachedBy_2 rfl (by decide) ?_
  refine r_istore_n (pc2 := 4) d_X_reachedBy_3 rfl rfl (Nat.le_of_ble_eq_true rfl) ?_
  refine Run.sub (l2 := [(0, .ref 0), (1, .int (nI v)), (2, .int (nI 0)), (3, .int (nI 0))]) ⟨rfl, rfl, rfl, rfl, trivial⟩ ?_
  exact l_X_reachedBy hS hR hn hP24 hL hle hv (P := fun p => decide (Lp p ≤ v)) (fun p => rfl) ⟨rfl, rfl⟩ _ 0 rfl (Nat.zero_le _)
theorem l_X_grow {d : Nat} {J : Nat → Nat → Int32} {R : Nat → Nat → Option Nat} {L : Nat → Nat → Int64} {sh : Nat → Nat × Nat} {N : Nat} (hS : ShOK sh) (hR : RfOK R) {nP : Nat} (hn : J 2 2 = nI nP) (hP24 : nP ≤ 24) {Lp : Nat → Nat} (hL : ∀ q, q < nP → J 728 q = nI (Lp q)) (hle : ∀ q, q < nP → Lp q ≤ 1001) {n : Nat} (hn24 : n ≤ 24) {Q : Option Value → HS → Prop} (hq1 : ∀ v, v ≤ 333 → (∀ j, j < v → ¬ n ≤ cnt (fun p => decide (Lp p ≤ j)) nP) → n ≤ cnt (fun p => decide (Lp p ≤ v)) nP → Q (some (.int (nI v))) (J, R, L, sh, N)) (hq2 : (∀ j, j < 334 → ¬ n ≤ cnt (fun p => decide (Lp p ≤ j)) nP) → Q (some (.int (-1))) (J, R, L, sh, N)) (hd : 4 ≤ d) : ∀ (n_ : Nat) (v : Nat), 334 - v = n_ → (v ≤ 334) → (∀ j, j < v → ¬ n ≤ cnt (fun p => decide (Lp p ≤ j)) nP) → Run mi_X_grow d 0 0 58 [(0, .ref 0), (4, .int (nI n)), (5, .int (nI v))] [] (J, R, L, sh, N) Q := by
  intro n_
  induction n_ using Nat.strongRecOn with | ind n_ ih_ => ?_
  intro v hn_ v0_ v1_
  refine r_iload (pc2 := 60) d_X_grow_58 rfl rfl ?_
  refine r_sipush (v := nI 333) (pc2 := 63) d_X_grow_60 rfl (by decide) ?_
  refine q_icmp_gt (tgt := 86) (A := ((v : Nat) : Int)) (B := (333 : Int)) (pc2 := 66) d_X_grow_63 rfl rfl (nI_toInt (by omega)) (nI_toInt (by omega)) (fun c1 => ?_) (fun c1 => ?_)
  · refine r_iconst (v := (-1 : Int32)) (pc2 := 87) d_X_grow_86 rfl (by decide) ?_
    refine Run.ret (some (.int ((-1 : Int32)))) d_X_grow_87 ⟨_, rfl⟩ ?_
    exact hq2 (by rw [show v = 334 by omega] at v1_; exact v1_)
  · refine r_aload_n (x := some 0) (pc2 := 67) d_X_grow_66 rfl rfl ?_
    refine r_iload (pc2 := 69) d_X_grow_67 rfl rfl ?_
    refine q_callv (M2 := mi_X_reachedBy) (pc2 := 72) d_X_grow_69 rfl k_X_355 cm_X_reachedBy cv_X_reachedBy (sh_0 hS) (by decide) rfl rfl rfl (Nat.le_of_ble_eq_true rfl) (c_X_reachedBy (J := J) hS hR hn hP24 hL hle (v := v) (by omega)) (d2 := d - 1) (by omega) (Nat.le_of_eq (Nat.zero_add _)) (Nat.le_of_eq (Nat.zero_add _)) ?_
    have hcl := cnt_le (fun p => decide (Lp p ≤ v)) nP
    refine r_iload (pc2 := 74) d_X_grow_72 rfl rfl ?_
    refine q_icmp_lt (tgt := 80) (A := ((cnt (fun p => decide (Lp p ≤ v)) nP : Nat) : Int)) (B := ((n : Nat) : Int)) (pc2 := 77) d_X_grow_74 rfl rfl (nI_toInt (by omega)) (nI_toInt (by omega)) (fun c2 => ?_) (fun c2 => ?_)
    · refine q_iinc (b := 1) (pc2 := 83) d_X_grow_80 rfl rfl (by decide) (Nat.le_of_ble_eq_true rfl) ?_
      refine r_goto (tgt := 58) d_X_grow_83 rfl ?_
      refine Run.sub (l2 := [(0, .ref 0), (4, .int (nI n)), (5, .int (nI (v + 1)))]) ⟨rfl, rfl, rfl, trivial⟩ ?_
      exact ih_ (334 - (v + 1)) (by omega) (v + 1) rfl (by omega) (fun j hj => by
        rcases Nat.lt_or_ge j v with q | q
        · exact v1_ j q
        · rw [show j = v by omega]; omega)
    · refine r_iload (pc2 := 79) d_X_grow_77 rfl rfl ?_
      refine Run.ret (some (.int (nI v))) d_X_grow_79 ⟨_, rfl⟩ ?_
      exact hq1 v (by omega) v1_ (by omega)
theorem l_X_findLeast {d : Nat} {J0 : Nat → Nat → Int32} {R : Nat → Nat → Option Nat} {L : Nat → Nat → Int64} {sh : Nat → Nat × Nat} {N : Nat} (hS : ShOK sh) (hR : RfOK R) {tK tF tC tS : Nat → Int32} {nt : Nat} (hV : TV tK tF tC nt) (hV2 : TV2 tK tF tC tS nt) (hnt6 : nt ≤ 1000000) {G : Nat → Int32} {nP nF nS : Nat} (hW : WFA G nP nF nt) (hWT : WFT G nF nS) {rk : Nat → Nat} (hrk : RK G nF rk) {F r k : Nat} (hF : F < nF) (hr : (r : Int) < (G (174 + 84 * F + 4)).toInt) (hs : ¬ 1000 ≤ (G (174 + 84 * F + 60 + 4 * r + 1)).toInt) (hk : 1 ≤ k ∧ k ≤ 3) (hD0 : DR tK tF tC tS J0 R sh nt 0 G nP nF nS) {Q : Option Value → HS → Prop} (hq : ∀ K, FrX sh J0 K → (∀ q, q < nP → K 728 q = nI (lpN (TRK tK tF tC tS) G F r k q)) → Q none (K, R, L, sh, N)) (hd : 60 ≤ d) : ∀ (n_ : Nat) (i : Nat) (x : Int32) (J : Nat → Nat → Int32), nP - i = n_ → (FrX sh J0 J) → (DR tK tF tC tS J R sh nt 2 (u1 G (174 + 84 * F + 60 + 4 * r + k) x) nP nF nS) → (0 ≤ x.toInt ∧ x.toInt ≤ 333) → (∀ q, q < i → J 728 q = nI (lpN (TRK tK tF tC tS) G F r k q)) → (i ≤ nP) → Run mi_X_findLeastParts d 0 0 14 [(0, .ref 0), (1, .int (nI F)), (2, .int (nI r)), (3, .int (nI k)), (4, .int (nI i))] [] (J, R, L, sh, N) Q := by
  intro n_
  induction n_ using Nat.strongRecOn with | ind n_ ih_ => ?_
  intro i x J hn_ v0_ v1_ v2_ v3_ v4_
  obtain ⟨hPc, hP24, hFc, hF12, hWF, hWP⟩ := id hW
  have hd0J := DR.x hS hW (by decide) hD0 v0_ FrXR.rf
  have hr6 : r < 6 := by
    obtain ⟨tp, kl, sk, fb, nR, nN, nO, fr, to, -, -, -, -, ⟨-, b4, c4, -⟩, -⟩ := wfn (hWF F hF)
    omega
  have hi0 : (nI 0).toInt = 0 := rfl
  have hi3 : (nI 333).toInt = 333 := by decide
  have wx : WFA (u1 G (174 + 84 * F + 60 + 4 * r + k) x) nP nF nt ∧ WFT (u1 G (174 + 84 * F + 60 + 4 * r + k) x) nF nS ∧ RK (u1 G (174 + 84 * F + 60 + 4 * r + k) x) nF rk := ⟨WFA_part hW hF hr hk v2_, WFT_part hWT, RK_part hW hrk hr6 hk.2⟩
  have w0 : WFA (u1 G (174 + 84 * F + 60 + 4 * r + k) (nI 0)) nP nF nt ∧ WFT (u1 G (174 + 84 * F + 60 + 4 * r + k) (nI 0)) nF nS ∧ RK (u1 G (174 + 84 * F + 60 + 4 * r + k) (nI 0)) nF rk := ⟨WFA_part hW hF hr hk (by omega), WFT_part hWT, RK_part hW hrk hr6 hk.2⟩
  have w3 : WFA (u1 G (174 + 84 * F + 60 + 4 * r + k) (nI 333)) nP nF nt ∧ WFT (u1 G (174 + 84 * F + 60 + 4 * r + k) (nI 333)) nF nS ∧ RK (u1 G (174 + 84 * F + 60 + 4 * r + k) (nI 333)) nF rk := ⟨WFA_part hW hF hr hk (by omega), WFT_part hWT, RK_part hW hrk hr6 hk.2⟩
  refine r_iload (pc2 := 16) d_X_findLeastParts_14 rfl rfl ?_
  refine r_aload_n (x := some 0) (pc2 := 17) d_X_findLeastParts_16 rfl rfl ?_
  refine q_getR (x := some 1) (pc2 := 20) d_X_findLeastParts_17 rfl k_X_12 rfl (sh_0 hS) (rf_0_0 hR) ?_
  refine q_getR (x := some 2) (pc2 := 23) d_X_findLeastParts_20 rfl k_X_179 rfl (sh_1 hS) (rf_1_0 hR) ?_
  refine q_getI (x := nI nP) (pc2 := 26) d_X_findLeastParts_23 rfl k_X_189 (by decide) (sh_2 hS) hd0J.1.1 ?_
  refine q_icmp_ge (tgt := 147) (A := ((i : Nat) : Int)) (B := ((nP : Nat) : Int)) (pc2 := 29) d_X_findLeastParts_26 rfl rfl (nI_toInt (by omega)) (nI_toInt (by omega)) (fun c1 => ?_) (fun c1 => ?_)
  · refine Run.ret none d_X_findLeastParts_147 rfl ?_
    rw [show i = nP by omega] at v3_; exact hq J v0_ v3_
  · refine r_aload_n (x := some 0) (pc2 := 30) d_X_findLeastParts_29 rfl rfl ?_
    refine q_getR (x := some 479) (pc2 := 33) d_X_findLeastParts_30 rfl k_X_19 rfl (sh_0 hS) (rf_0_2 hR) ?_
    refine r_iload_n (pc2 := 34) d_X_findLeastParts_33 rfl rfl ?_
    refine r_iload_n (pc2 := 35) d_X_findLeastParts_34 rfl rfl ?_
    refine r_iload_n (pc2 := 36) d_X_findLeastParts_35 rfl rfl ?_
    refine r_iconst (v := nI 0) (pc2 := 37) d_X_findLeastParts_36 rfl (by decide) ?_
    refine r_callv (M2 := mi_De_setPart) (pc2 := 40) d_X_findLeastParts_37 rfl k_X_358 cm_De_setPart cv_De_setPart (sh_479 hS) (by decide) rfl rfl rfl (Nat.le_of_ble_eq_true rfl) (c_De_setPart_2 (J := J) hS hR wx.1 wx.2.1 v1_ (F := F) (r := r) (k := k) hF (by omega) hk (v := nI 0) (by rw [nI_toInt (by omega)]; omega) (d := d - 1) (by omega)) (d2 := d - 1) (by omega) (Nat.le_of_eq (Nat.zero_add _)) (Nat.le_of_eq (Nat.zero_add _)) (fun r2 h2 hq2 => ?_)
    obtain ⟨rfl, K2, rfl, hfK2, hdK2⟩ := hq2
    change Run _ _ _ _ _ _ [] _ _
    rw [stpP_y ⟨by rw [u1_o (by omega)]; exact hr, by unfold u1; split <;> first | omega | exact hs⟩, u1_ov] at hdK2
    have fxK2 := FrX.tr v0_ (hfK2.x)
    refine r_aload_n (x := some 0) (pc2 := 41) d_X_findLeastParts_40 rfl rfl ?_
    refine r_iload_n (pc2 := 42) d_X_findLeastParts_41 rfl rfl ?_
    refine r_iload (pc2 := 44) d_X_findLeastParts_42 rfl rfl ?_
    refine r_callv (M2 := mi_X_answerInTrial) (pc2 := 47) d_X_findLeastParts_44 rfl k_X_346 cm_X_answerInTrial cv_X_answerInTrial (sh_0 hS) (by decide) rfl rfl rfl (Nat.le_of_ble_eq_true rfl) (c_X_answerInTrial (I := K2) hS hR hV hV2 hnt6 w0.1 hdK2 w0.2.2 (p := i) (by omega) (F := F) hF FrN.rf (d := d - 1) (by omega)) (d2 := d - 1) (by omega) (Nat.le_of_eq (Nat.zero_add _)) (Nat.le_of_eq (Nat.zero_add _)) (fun r2 h2 hq2 => ?_)
    obtain ⟨K3, rfl, rfl, hnK3, -⟩ := hq2
    change Run _ _ _ _ _ _ [.int ((AN (TRK tK tF tC tS) (u1 G (174 + 84 * F + 60 + 4 * r + k) (nI 0)) i F).1)] _ _
    have e2K3 := DR.n hS w0.1 (by decide) (by decide) hdK2 hnK3
    have fxK3 := FrX.tr fxK2 (hnK3.x (by decide))
    have d0K3 := DR.x hS hW (by decide) hD0 fxK3 FrXR.rf
    refine r_iload_n (pc2 := 48) d_X_findLeastParts_47 rfl rfl ?_
    refine q_icmp_ne (tgt := 62) (A := ((AN (TRK tK tF tC tS) (u1 G (174 + 84 * F + 60 + 4 * r + k) (nI 0)) i F).1).toInt) (B := ((k : Nat) : Int)) (pc2 := 51) d_X_findLeastParts_48 rfl rfl (rfl) (nI_toInt (by omega)) (fun c4 => ?_) (fun c4 => ?_)
    · refine r_aload_n (x := some 0) (pc2 := 63) d_X_findLeastParts_62 rfl rfl ?_
      refine q_getR (x := some 479) (pc2 := 66) d_X_findLeastParts_63 rfl k_X_19 rfl (sh_0 hS) (rf_0_2 hR) ?_
      refine r_iload_n (pc2 := 67) d_X_findLeastParts_66 rfl rfl ?_
      refine r_iload_n (pc2 := 68) d_X_findLeastParts_67 rfl rfl ?_
      refine r_iload_n (pc2 := 69) d_X_findLeastParts_68 rfl rfl ?_
      refine r_sipush (v := nI 333) (pc2 := 72) d_X_findLeastParts_69 rfl (by decide) ?_
      refine r_callv (M2 := mi_De_setPart) (pc2 := 75) d_X_findLeastParts_72 rfl k_X_358 cm_De_setPart cv_De_setPart (sh_479 hS) (by decide) rfl rfl rfl (Nat.le_of_ble_eq_true rfl) (c_De_setPart_2 (J := K3) hS hR w0.1 w0.2.1 e2K3 (F := F) (r := r) (k := k) hF (by omega) hk (v := nI 333) (by rw [nI_toInt (by omega)]; omega) (d := d - 1) (by omega)) (d2 := d - 1) (by omega) (Nat.le_of_eq (Nat.zero_add _)) (Nat.le_of_eq (Nat.zero_add _)) (fun r2 h2 hq2 => ?_)
      obtain ⟨rfl, K5, rfl, hfK5, hdK5⟩ := hq2
      change Run _ _ _ _ _ _ [] _ _
      rw [stpP_y ⟨by rw [u1_o (by omega)]; exact hr, by unfold u1; split <;> first | omega | exact hs⟩, u1_ov] at hdK5
      have fxK5 := FrX.tr fxK3 (hfK5.x)
      refine r_aload_n (x := some 0) (pc2 := 76) d_X_findLeastParts_75 rfl rfl ?_
      refine r_iload_n (pc2 := 77) d_X_findLeastParts_76 rfl rfl ?_
      refine r_iload (pc2 := 79) d_X_findLeastParts_77 rfl rfl ?_
      refine r_callv (M2 := mi_X_answerInTrial) (pc2 := 82) d_X_findLeastParts_79 rfl k_X_346 cm_X_answerInTrial cv_X_answerInTrial (sh_0 hS) (by decide) rfl rfl rfl (Nat.le_of_ble_eq_true rfl) (c_X_answerInTrial (I := K5) hS hR hV hV2 hnt6 w3.1 hdK5 w3.2.2 (p := i) (by omega) (F := F) hF FrN.rf (d := d - 1) (by omega)) (d2 := d - 1) (by omega) (Nat.le_of_eq (Nat.zero_add _)) (Nat.le_of_eq (Nat.zero_add _)) (fun r2 h2 hq2 => ?_)
      obtain ⟨K6, rfl, rfl, hnK6, -⟩ := hq2
      change Run _ _ _ _ _ _ [.int ((AN (TRK tK tF tC tS) (u1 G (174 + 84 * F + 60 + 4 * r + k) (nI 333)) i F).1)] _ _
      have e2K6 := DR.n hS w3.1 (by decide) (by decide) hdK5 hnK6
      have fxK6 := FrX.tr fxK5 (hnK6.x (by decide))
      have d0K6 := DR.x hS hW (by decide) hD0 fxK6 FrXR.rf
      refine r_iload_n (pc2 := 83) d_X_findLeastParts_82 rfl rfl ?_
      refine q_icmp_ne (tgt := 90) (A := ((AN (TRK tK tF tC tS) (u1 G (174 + 84 * F + 60 + 4 * r + k) (nI 333)) i F).1).toInt) (B := ((k : Nat) : Int)) (pc2 := 86) d_X_findLeastParts_83 rfl rfl (rfl) (nI_toInt (by omega)) (fun c7 => ?_) (fun c7 => ?_)
      · refine r_iconst (v := nI 0) (pc2 := 91) d_X_findLeastParts_90 rfl (by decide) ?_
        refine r_istore (pc2 := 93) d_X_findLeastParts_91 rfl (Nat.le_of_ble_eq_true rfl) ?_
        refine r_iload_n (pc2 := 94) d_X_findLeastParts_93 rfl rfl ?_
        refine r_iconst (v := nI 1) (pc2 := 95) d_X_findLeastParts_94 rfl (by decide) ?_
        refine q_iaddN (pc2 := 96) d_X_findLeastParts_95 rfl ?_
        refine r_aload_n (x := some 0) (pc2 := 97) d_X_findLeastParts_96 rfl rfl ?_
        refine q_getR (x := some 1) (pc2 := 100) d_X_findLeastParts_97 rfl k_X_12 rfl (sh_0 hS) (rf_0_0 hR) ?_
        refine q_getR (x := some 2) (pc2 := 103) d_X_findLeastParts_100 rfl k_X_179 rfl (sh_1 hS) (rf_1_0 hR) ?_
        refine q_getR (x := some 3) (pc2 := 106) d_X_findLeastParts_103 rfl k_X_202 rfl (sh_2 hS) (rf_2_0 hR) ?_
        refine r_iload (pc2 := 108) d_X_findLeastParts_106 rfl rfl ?_
        refine q_iaload (q := i) (x := G (6 + 2 * i)) (pc2 := 109) d_X_findLeastParts_108 rfl (sh_3 hS) (nI_toInt (by omega)) (by omega) ((d0K6.2.1 i (by omega)).1) ?_
        refine q_calls (M2 := mi_X_bucketBy) (pc2 := 112) d_X_findLeastParts_109 rfl k_X_205 cm_X_bucketBy cs_X_bucketBy rfl rfl (Nat.le_of_ble_eq_true rfl) (c_X_bucketBy (s := nI (F + 1)) (k := G (6 + 2 * i))) (d2 := d - 1) (by omega) (Nat.le_of_eq (Nat.zero_add _)) (Nat.le_of_eq (Nat.zero_add _)) ?_
        obtain ⟨x32, hx32⟩ : ∃ x, x = bkt (nI (F + 1)) (G (6 + 2 * i)) := ⟨_, rfl⟩
        have hbr : 0 ≤ x32.toInt ∧ x32.toInt < 1000 := by rw [hx32]; exact bkt_rng _ _
        rw [← hx32]
        obtain ⟨bN, exN, exb, hbl⟩ : ∃ b : Nat, x32 = nI b ∧ x32.toInt = (b : Int) ∧ b < 1000 := ⟨x32.toInt.toNat, eq_nI (Int.toNat_of_nonneg hbr.1).symm, (Int.toNat_of_nonneg hbr.1).symm, by omega⟩
        refine q_top (y := nI bN) exN ?_
        refine r_istore (pc2 := 114) d_X_findLeastParts_112 rfl (Nat.le_of_ble_eq_true rfl) ?_
        refine r_aload_n (x := some 0) (pc2 := 115) d_X_findLeastParts_114 rfl rfl ?_
        refine q_getR (x := some 728) (pc2 := 118) d_X_findLeastParts_115 rfl k_X_36 rfl (sh_0 hS) (rf_0_6 hR) ?_
        refine r_iload (pc2 := 120) d_X_findLeastParts_118 rfl rfl ?_
        refine r_iload (pc2 := 122) d_X_findLeastParts_120 rfl rfl ?_
        refine q_if_eq (tgt := 137) (A := (0 : Int)) (pc2 := 125) d_X_findLeastParts_122 rfl rfl (nI_toInt (by omega)) (fun c8 => ?_) (fun c8 => ?_)
        rotate_left
        · exfalso; omega
        refine r_sipush (v := nI 334) (pc2 := 140) d_X_findLeastParts_137 rfl (by decide) ?_
        refine q_iastore (q := i) (pc2 := 141) d_X_findLeastParts_140 rfl (sh_728 hS) (nI_toInt (by omega)) (by omega) (fun I9 hI9 => ?_)
        refine q_iinc (b := 1) (pc2 := 144) d_X_findLeastParts_141 rfl rfl (by decide) (Nat.le_of_ble_eq_true rfl) ?_
        refine r_goto (tgt := 14) d_X_findLeastParts_144 rfl ?_
        refine Run.sub (l2 := [(0, .ref 0), (1, .int (nI F)), (2, .int (nI r)), (3, .int (nI k)), (4, .int (nI (i + 1)))]) ⟨rfl, rfl, rfl, rfl, rfl, trivial⟩ ?_
        exact ih_ (nP - (i + 1)) (by omega) (i + 1) ((nI 333)) I9 rfl (FrX.put fxK6 hI9 (Or.inl (by decide))) (DR.w w3.1 (by decide) e2K6 (fun a j h1 h2 => rd_ne hI9 (by unfold dk at h2; omega)) (fun _ _ _ _ => rfl) (fun a j h1 _ => rd_ne hI9 (by omega)) (fun _ _ _ => rfl)) (by rw [nI_toInt (by omega)]; omega) (fun q hq => by
          by_cases z : q = i
          · rw [z, rd_eq hI9]; unfold lpN; rw [if_neg c4, if_neg c7]
          · rw [rd_nk hI9 z]; exact ((hnK6 728 q (by decide) (sh_n14 hS (by decide))).trans ((hfK5 728 q (by unfold dk; omega)).trans ((hnK3 728 q (by decide) (sh_n14 hS (by decide))).trans (hfK2 728 q (by unfold dk; omega))))).trans (v3_ q (by omega))) (by omega)
      · refine r_iconst (v := nI 1) (pc2 := 87) d_X_findLeastParts_86 rfl (by decide) ?_
        refine r_goto (tgt := 91) d_X_findLeastParts_87 rfl ?_
        refine r_istore (pc2 := 93) d_X_findLeastParts_91 rfl (Nat.le_of_ble_eq_true rfl) ?_
        refine r_iload_n (pc2 := 94) d_X_findLeastParts_93 rfl rfl ?_
        refine r_iconst (v := nI 1) (pc2 := 95) d_X_findLeastParts_94 rfl (by decide) ?_
        refine q_iaddN (pc2 := 96) d_X_findLeastParts_95 rfl ?_
        refine r_aload_n (x := some 0) (pc2 := 97) d_X_findLeastParts_96 rfl rfl ?_
        refine q_getR (x := some 1) (pc2 := 100) d_X_findLeastParts_97 rfl k_X_12 rfl (sh_0 hS) (rf_0_0 hR) ?_
        refine q_getR (x := some 2) (pc2 := 103) d_X_findLeastParts_100 rfl k_X_179 rfl (sh_1 hS) (rf_1_0 hR) ?_
        refine q_getR (x := some 3) (pc2 := 106) d_X_findLeastParts_103 rfl k_X_202 rfl (sh_2 hS) (rf_2_0 hR) ?_
        refine r_iload (pc2 := 108) d_X_findLeastParts_106 rfl rfl ?_
        refine q_iaload (q := i) (x := G (6 + 2 * i)) (pc2 := 109) d_X_findLeastParts_108 rfl (sh_3 hS) (nI_toInt (by omega)) (by omega) ((d0K6.2.1 i (by omega)).1) ?_
        refine q_calls (M2 := mi_X_bucketBy) (pc2 := 112) d_X_findLeastParts_109 rfl k_X_205 cm_X_bucketBy cs_X_bucketBy rfl rfl (Nat.le_of_ble_eq_true rfl) (c_X_bucketBy (s := nI (F + 1)) (k := G (6 + 2 * i))) (d2 := d - 1) (by omega) (Nat.le_of_eq (Nat.zero_add _)) (Nat.le_of_eq (Nat.zero_add _)) ?_
        obtain ⟨x32, hx32⟩ : ∃ x, x = bkt (nI (F + 1)) (G (6 + 2 * i)) := ⟨_, rfl⟩
        have hbr : 0 ≤ x32.toInt ∧ x32.toInt < 1000 := by rw [hx32]; exact bkt_rng _ _
        rw [← hx32]
        obtain ⟨bN, exN, exb, hbl⟩ : ∃ b : Nat, x32 = nI b ∧ x32.toInt = (b : Int) ∧ b < 1000 := ⟨x32.toInt.toNat, eq_nI (Int.toNat_of_nonneg hbr.1).symm, (Int.toNat_of_nonneg hbr.1).symm, by omega⟩
        refine q_top (y := nI bN) exN ?_
        refine r_istore (pc2 := 114) d_X_findLeastParts_112 rfl (Nat.le_of_ble_eq_true rfl) ?_
        refine r_aload_n (x := some 0) (pc2 := 115) d_X_findLeastParts_114 rfl rfl ?_
        refine q_getR (x := some 728) (pc2 := 118) d_X_findLeastParts_115 rfl k_X_36 rfl (sh_0 hS) (rf_0_6 hR) ?_
        refine r_iload (pc2 := 120) d_X_findLeastParts_118 rfl rfl ?_
        refine r_iload (pc2 := 122) d_X_findLeastParts_120 rfl rfl ?_
        refine q_if_eq (tgt := 137) (A := (1 : Int)) (pc2 := 125) d_X_findLeastParts_122 rfl rfl (nI_toInt (by omega)) (fun c10 => ?_) (fun c10 => ?_)
        · exfalso; omega
        have hrg := (lpN_ok (tr := (TRK tK tF tC tS)) hW hrk hF hr hs hk (p := i) (by omega)).2 c4 c7
        rw [← hx32, exb, Int.toNat_natCast] at hrg
        refine r_iload (pc2 := 127) d_X_findLeastParts_125 rfl rfl ?_
        refine r_iload_n (pc2 := 128) d_X_findLeastParts_127 rfl rfl ?_
        refine q_calls (M2 := mi_X_firstBucket) (pc2 := 131) d_X_findLeastParts_128 rfl k_X_444 cm_X_firstBucket cs_X_firstBucket rfl rfl (Nat.le_of_ble_eq_true rfl) (c_X_firstBucket (v := k) (by omega) (by omega)) (d2 := d - 1) (by omega) (Nat.le_of_eq (Nat.zero_add _)) (Nat.le_of_eq (Nat.zero_add _)) ?_
        refine q_isubN (pc2 := 132) d_X_findLeastParts_131 rfl (by omega) ?_
        refine r_iconst (v := nI 1) (pc2 := 133) d_X_findLeastParts_132 rfl (by decide) ?_
        refine q_iaddN (pc2 := 134) d_X_findLeastParts_133 rfl ?_
        refine r_goto (tgt := 140) d_X_findLeastParts_134 rfl ?_
        refine q_iastore (q := i) (pc2 := 141) d_X_findLeastParts_140 rfl (sh_728 hS) (nI_toInt (by omega)) (by omega) (fun I11 hI11 => ?_)
        refine q_iinc (b := 1) (pc2 := 144) d_X_findLeastParts_141 rfl rfl (by decide) (Nat.le_of_ble_eq_true rfl) ?_
        refine r_goto (tgt := 14) d_X_findLeastParts_144 rfl ?_
        refine Run.sub (l2 := [(0, .ref 0), (1, .int (nI F)), (2, .int (nI r)), (3, .int (nI k)), (4, .int (nI (i + 1)))]) ⟨rfl, rfl, rfl, rfl, rfl, trivial⟩ ?_
        exact ih_ (nP - (i + 1)) (by omega) (i + 1) ((nI 333)) I11 rfl (FrX.put fxK6 hI11 (Or.inl (by decide))) (DR.w w3.1 (by decide) e2K6 (fun a j h1 h2 => rd_ne hI11 (by unfold dk at h2; omega)) (fun _ _ _ _ => rfl) (fun a j h1 _ => rd_ne hI11 (by omega)) (fun _ _ _ => rfl)) (by rw [nI_toInt (by omega)]; omega) (fun q hq => by
          by_cases z : q = i
          · rw [z, rd_eq hI11]; unfold lpN; rw [if_neg c4, if_pos c7, ← hx32, exb, Int.toNat_natCast]
          · rw [rd_nk hI11 z]; exact ((hnK6 728 q (by decide) (sh_n14 hS (by decide))).trans ((hfK5 728 q (by unfold dk; omega)).trans ((hnK3 728 q (by decide) (sh_n14 hS (by decide))).trans (hfK2 728 q (by unfold dk; omega))))).trans (v3_ q (by omega))) (by omega)
    · refine r_aload_n (x := some 0) (pc2 := 52) d_X_findLeastParts_51 rfl rfl ?_
      refine q_getR (x := some 728) (pc2 := 55) d_X_findLeastParts_52 rfl k_X_36 rfl (sh_0 hS) (rf_0_6 hR) ?_
      refine r_iload (pc2 := 57) d_X_findLeastParts_55 rfl rfl ?_
      refine r_iconst (v := nI 0) (pc2 := 58) d_X_findLeastParts_57 rfl (by decide) ?_
      refine q_iastore (q := i) (pc2 := 59) d_X_findLeastParts_58 rfl (sh_728 hS) (nI_toInt (by omega)) (by omega) (fun I12 hI12 => ?_)
      refine r_goto (tgt := 141) d_X_findLeastParts_59 rfl ?_
      refine q_iinc (b := 1) (pc2 := 144) d_X_findLeastParts_141 rfl rfl (by decide) (Nat.le_of_ble_eq_true rfl) ?_
      refine r_goto (tgt := 14) d_X_findLeastParts_144 rfl ?_
      refine Run.sub (l2 := [(0, .ref 0), (1, .int (nI F)), (2, .int (nI r)), (3, .int (nI k)), (4, .int (nI (i + 1)))]) ⟨rfl, rfl, rfl, rfl, rfl, trivial⟩ ?_
      exact ih_ (nP - (i + 1)) (by omega) (i + 1) ((nI 0)) I12 rfl (FrX.put fxK3 hI12 (Or.inl (by decide))) (DR.w w0.1 (by decide) e2K3 (fun a j h1 h2 => rd_ne hI12 (by unfold dk at h2; omega)) (fun _ _ _ _ => rfl) (fun a j h1 _ => rd_ne hI12 (by omega)) (fun _ _ _ => rfl)) (by rw [nI_toInt (by omega)]; omega) (fun q hq => by
        by_cases z : q = i
        · rw [z, rd_eq hI12]; unfold lpN; rw [if_pos c4]
        · rw [rd_nk hI12 z]; exact ((hnK3 728 q (by decide) (sh_n14 hS (by decide))).trans (hfK2 728 q (by unfold dk; omega))).trans (v3_ q (by omega))) (by omega)
theorem c_X_findLeastParts {d : Nat} {I : Nat → Nat → Int32} {R : Nat → Nat → Option Nat} {L : Nat → Nat → Int64} {sh : Nat → Nat × Nat} {N : Nat} (hS : ShOK sh) (hR : RfOK R) {tK tF tC tS : Nat → Int32} {nt : Nat} (hV : TV tK tF tC nt) (hV2 : TV2 tK tF tC tS nt) (hnt6 : nt ≤ 1000000) {G : Nat → Int32} {nP nF nS : Nat} (hW : WFA G nP nF nt) (hWT : WFT G nF nS) {rk : Nat → Nat} (hrk : RK G nF rk) {F r k : Nat} (hF : F < nF) (hr : (r : Int) < (G (174 + 84 * F + 4)).toInt) (hs : ¬ 1000 ≤ (G (174 + 84 * F + 60 + 4 * r + 1)).toInt) (hk : 1 ≤ k ∧ k ≤ 3) (hx : 0 ≤ (G (174 + 84 * F + 60 + 4 * r + k)).toInt ∧ (G (174 + 84 * F + 60 + 4 * r + k)).toInt ≤ 333) (hD : DR tK tF tC tS I R sh nt 0 G nP nF nS) (hd : 70 ≤ d) : Mt mi_X_findLeastParts d 0 0 [.ref 0, .int (nI F), .int (nI r), .int (nI k)] (I, R, L, sh, N) (fun x h2 => x = none ∧ ∃ K R1, h2 = (K, R1, L, sh, N) ∧ FrX sh I K ∧ FrXR R R1 ∧ ∀ q, q < nP → K 728 q = nI (lpN (TRK tK tF tC tS) G F r k q)) := by
  obtain ⟨hPc, hP24, hFc, hF12, hWF, hWP⟩ := id hW
  refine Mt.of pn_X (Nat.le_of_ble_eq_true rfl) ?_
  show Run mi_X_findLeastParts d 0 0 0 [(0, .ref 0), (1, .int (nI F)), (2, .int (nI r)), (3, .int (nI k))] [] (I, R, L, sh, N) _
  refine r_aload_n (x := some 0) (pc2 := 1) d_X_findLeastParts_0 rfl rfl ?_
  refine q_getR (x := some 479) (pc2 := 4) d_X_findLeastParts_1 rfl k_X_19 rfl (sh_0 hS) (rf_0_2 hR) ?_
  refine r_aload_n (x := some 0) (pc2 := 5) d_X_findLeastParts_4 rfl rfl ?_
  refine q_getR (x := some 1) (pc2 := 8) d_X_findLeastParts_5 rfl k_X_12 rfl (sh_0 hS) (rf_0_0 hR) ?_
  refine r_callv (M2 := mi_De_become) (pc2 := 11) d_X_findLeastParts_8 rfl k_X_339 cm_De_become cv_De_become (sh_479 hS) (by decide) rfl rfl rfl (Nat.le_of_ble_eq_true rfl) (c_De_become_02 (I := I) hS hR hW hWT.2.1 hD (d := d - 1) (by omega)) (d2 := d - 1) (by omega) (Nat.le_of_eq (Nat.zero_add _)) (Nat.le_of_eq (Nat.zero_add _)) (fun r2 h2 hq2 => ?_)
  obtain ⟨rfl, K1, R2, rfl, hfK1, hbR2, hdK1⟩ := hq2
  change Run _ _ _ _ _ _ [] _ _
  have hrR2 := hbR2.2 hR
  refine r_iconst (v := nI 0) (pc2 := 12) d_X_findLeastParts_11 rfl (by decide) ?_
  refine r_istore (pc2 := 14) d_X_findLeastParts_12 rfl (Nat.le_of_ble_eq_true rfl) ?_
  refine Run.sub (l2 := [(0, .ref 0), (1, .int (nI F)), (2, .int (nI r)), (3, .int (nI k)), (4, .int (nI 0))]) ⟨rfl, rfl, rfl, rfl, rfl, trivial⟩ ?_
  exact l_X_findLeast (J0 := K1) (R := R2) hS hrR2 hV hV2 hnt6 hW hWT hrk hF hr hs hk (DR.x hS hW (by decide) hD hfK1.x hbR2.x) (fun K2 h1 h2 => ⟨rfl, K2, R2, rfl, FrX.tr hfK1.x h1, hbR2.x, h2⟩) (by omega) _ 0 (G (174 + 84 * F + 60 + 4 * r + k)) K1 rfl FrX.rf (by rw [u1_id]; exact hdK1) hx (fun q hq => absurd hq (by omega)) (Nat.zero_le _)
theorem c_X_grow {d : Nat} {I : Nat → Nat → Int32} {R : Nat → Nat → Option Nat} {L : Nat → Nat → Int64} {sh : Nat → Nat × Nat} {N : Nat} (hS : ShOK sh) (hR : RfOK R) {tK tF tC tS : Nat → Int32} {nt : Nat} (hV : TV tK tF tC nt) (hV2 : TV2 tK tF tC tS nt) (hnt6 : nt ≤ 1000000) {G : Nat → Int32} {nP nF nS : Nat} (hW : WFA G nP nF nt) (hWT : WFT G nF nS) (hKW : WFK G nP nF) {rk : Nat → Nat} (hrk : RK G nF rk) (hD : DR tK tF tC tS I R sh nt 0 G nP nF nS) {f : Int32} {r : Int32} {k : Int32} {n : Int32} (hd : 100 ≤ d) : Mt mi_X_grow d 0 0 [.ref 0, .int f, .int r, .int k, .int n] (I, R, L, sh, N) (XP I R L sh N (o_grow (TRK tK tF tC tS) G nP nF f r k n) (fun K _ => FrX sh I K)) := by
  obtain ⟨hPc, hP24, hFc, hF12, hWF, hWP⟩ := id hW
  refine Mt.of pn_X (Nat.le_of_ble_eq_true rfl) ?_
  show Run mi_X_grow d 0 0 0 [(0, .ref 0), (1, .int f), (2, .int r), (3, .int k), (4, .int n)] [] (I, R, L, sh, N) _
  have hz0 : (nI 0).toInt = 0 := rfl
  refine r_aload_n (x := some 0) (pc2 := 1) d_X_grow_0 rfl rfl ?_
  refine r_iload_n (pc2 := 2) d_X_grow_1 rfl rfl ?_
  refine r_iload_n (pc2 := 3) d_X_grow_2 rfl rfl ?_
  refine r_iload_n (pc2 := 4) d_X_grow_3 rfl rfl ?_
  refine q_callv (M2 := mi_X_isPlaceOfPart) (pc2 := 7) d_X_grow_4 rfl k_X_260 cm_X_isPlaceOfPart cv_X_isPlaceOfPart (sh_0 hS) (by decide) rfl rfl rfl (Nat.le_of_ble_eq_true rfl) (c_X_isPlaceOfPart (f := f) (r := r) (v := k) hS hR hV hV2 hnt6 hW hWT hKW hrk hD (by omega)) (d2 := d - 1) (by omega) (Nat.le_of_eq (Nat.zero_add _)) (Nat.le_of_eq (Nat.zero_add _)) ?_
  refine q_bif_eq (tgt := 22) (pc2 := 10) d_X_grow_7 rfl rfl (fun c1 => ?_) (fun c1 => ?_)
  · refine r_aload_n (x := some 0) (pc2 := 23) d_X_grow_22 rfl rfl ?_
    refine r_bipush (v := (-32 : Int32)) (pc2 := 25) d_X_grow_23 rfl (by decide) ?_
    refine q_callv (M2 := mi_X_refuse) (pc2 := 28) d_X_grow_25 rfl k_X_75 cm_X_refuse cv_X_refuse (sh_0 hS) (by decide) rfl rfl rfl (Nat.le_of_ble_eq_true rfl) (c_X_refuse_0 (J := I) hS hR) (d2 := d - 1) (by omega) (Nat.le_of_eq (Nat.zero_add _)) (Nat.le_of_eq (Nat.zero_add _)) ?_
    obtain ⟨I2, hI2⟩ : ∃ x, x = u2 I 744 0 (I 744 0 + nI 1) := ⟨_, rfl⟩
    rw [← hI2]
    refine Run.ret (some (.int ((-32 : Int32)))) d_X_grow_28 ⟨_, rfl⟩ ?_
    first | (exfalso; omega) | exact XP.bad hS 0 (by (try simp only [okPart, hz0, Int.toNat_natCast] at c1); (unfold o_grow); (try dsimp only); (try simp only [okPart, hz0, Int.toNat_natCast]); (repeat (first | rw [if_pos (by omega)] | rw [if_neg (by omega)])); (try rfl); (all_goals first | rfl | (congr 2 <;> omega) | ((repeat' split) <;> first | rfl | (exfalso; omega) | (congr 2 <;> omega) | skip))) (by decide) FrXR.rf FrX.rf hI2
  · obtain ⟨q1c1, q2c1⟩ := id c1
    obtain ⟨fN, hfN, rfl, efN⟩ := nat_of q1c1.1
    obtain ⟨tpfN, klfN, skfN, fbfN, nRfN, nNfN, nOfN, frfN, tofN, ⟨a0fN, b0fN, cc0fN, dd0fN⟩, ⟨a1fN, b1fN, cc1fN, dd1fN⟩, ⟨a2fN, b2fN, cc2fN, dd2fN⟩, ⟨a3fN, b3fN, cc3fN, dd3fN⟩, ⟨a4fN, b4fN, cc4fN, dd4fN⟩, ⟨a5fN, b5fN, cc5fN, dd5fN⟩, ⟨a6fN, b6fN, cc6fN, dd6fN⟩, ⟨a8fN, b8fN, cc8fN, dd8fN⟩, ⟨a9fN, b9fN, cc9fN, dd9fN⟩⟩ := wfn (hWF fN (by omega))
    obtain ⟨-, -, -, -, -, -, -, w7fN, -, -, wNfN, wRfN, wKfN, wOfN⟩ := hWF fN (by omega)
    obtain ⟨⟨x0fN, x1fN, x2fN, x3fN, x4fN, x5fN, x6fN, x7fN, x8fN⟩, xnfN, xofN, xkfN, xcfN, xrfN⟩ := hD.2.2.2.1 fN (by omega)
    have hflfN := fe_lt (e := 0) (by decide) (show fN < 12 by omega)
    unfold dk at hflfN
    simp only [efN, Int.toNat_natCast, b4fN] at q1c1
    obtain ⟨rN, hrN, rfl, erN⟩ := nat_of q1c1.2
    obtain ⟨rtfNrN, rafNrN, rbfNrN, rcfNrN, ⟨t0fNrN, t1fNrN, t2fNrN⟩, ⟨u0fNrN, u1fNrN, u2fNrN⟩, ⟨v0fNrN, v1fNrN, v2fNrN⟩, ⟨z0fNrN, z1fNrN, z2fNrN⟩⟩ := wrn (wRfN rN (by omega))
    obtain ⟨rffNrN, rsfNrN, cfNrN, mfNrN, bbfNrN, rrfNrN, cofNrN, bnfNrN, ttfNrN⟩ := xrfN rN (by unfold nRof; rw [b4fN, Int.toNat_natCast]; omega)
    have cmfNrN := cofNrN.2.2.1
    have c781fNrN := cofNrN.2.2.2.1
    (try simp only [efN, Int.toNat_natCast, b0fN] at q2c1)
    obtain ⟨kN, hkN, gkN, rfl, ekN⟩ := nat_of' (show (0 : Int) ≤ 1 by decide) q2c1
    refine r_iload (pc2 := 12) d_X_grow_10 rfl rfl ?_
    refine q_if_lt (tgt := 22) (A := n.toInt) (pc2 := 15) d_X_grow_12 rfl rfl (rfl) (fun c3 => ?_) (fun c3 => ?_)
    · refine r_aload_n (x := some 0) (pc2 := 23) d_X_grow_22 rfl rfl ?_
      refine r_bipush (v := (-32 : Int32)) (pc2 := 25) d_X_grow_23 rfl (by decide) ?_
      refine q_callv (M2 := mi_X_refuse) (pc2 := 28) d_X_grow_25 rfl k_X_75 cm_X_refuse cv_X_refuse (sh_0 hS) (by decide) rfl rfl rfl (Nat.le_of_ble_eq_true rfl) (c_X_refuse_0 (J := I) hS hR) (d2 := d - 1) (by omega) (Nat.le_of_eq (Nat.zero_add _)) (Nat.le_of_eq (Nat.zero_add _)) ?_
      obtain ⟨I4, hI4⟩ : ∃ x, x = u2 I 744 0 (I 744 0 + nI 1) := ⟨_, rfl⟩
      rw [← hI4]
      refine Run.ret (some (.int ((-32 : Int32)))) d_X_grow_28 ⟨_, rfl⟩ ?_
      first | (exfalso; omega) | exact XP.bad hS 0 (by (try simp only [okPart, hz0, efN, b0fN, b1fN, b2fN, b3fN, b4fN, b5fN, b6fN, b8fN, b9fN, erN, t1fNrN, u1fNrN, v1fNrN, z1fNrN, ekN, Int.toNat_natCast] at c1 c3); (unfold o_grow); (try dsimp only); (try simp only [okPart, hz0, efN, b0fN, b1fN, b2fN, b3fN, b4fN, b5fN, b6fN, b8fN, b9fN, erN, t1fNrN, u1fNrN, v1fNrN, z1fNrN, ekN, Int.toNat_natCast]); (repeat (first | rw [if_pos (by omega)] | rw [if_neg (by omega)])); (try rfl); (all_goals first | rfl | (simp only [a0fN, a1fN, a2fN, a3fN, a4fN, a5fN, a6fN, a8fN, a9fN]; done) | (congr 2 <;> omega) | ((repeat' split) <;> first | rfl | (simp only [a0fN, a1fN, a2fN, a3fN, a4fN, a5fN, a6fN, a8fN, a9fN]; done) | (exfalso; omega) | (congr 2 <;> omega) | skip))) (by decide) FrXR.rf FrX.rf hI4
    · refine r_iload (pc2 := 17) d_X_grow_15 rfl rfl ?_
      refine r_bipush (v := nI 24) (pc2 := 19) d_X_grow_17 rfl (by decide) ?_
      refine q_icmp_le (tgt := 29) (A := n.toInt) (B := (24 : Int)) (pc2 := 22) d_X_grow_19 rfl rfl (rfl) (nI_toInt (by omega)) (fun c5 => ?_) (fun c5 => ?_)
      · obtain ⟨nN, hnN, rfl, enN⟩ : ∃ a : Nat, a ≤ 24 ∧ n = nI a ∧ n.toInt = (a : Int) := ⟨n.toInt.toNat, by omega, eq_nI (by omega), by omega⟩
        refine r_aload_n (x := some 0) (pc2 := 30) d_X_grow_29 rfl rfl ?_
        refine r_iload_n (pc2 := 31) d_X_grow_30 rfl rfl ?_
        refine r_iload_n (pc2 := 32) d_X_grow_31 rfl rfl ?_
        refine q_callv (M2 := mi_X_ruleAt) (pc2 := 35) d_X_grow_32 rfl k_X_125 cm_X_ruleAt cv_X_ruleAt (sh_0 hS) (by decide) rfl rfl rfl (Nat.le_of_ble_eq_true rfl) (c_X_ruleAt (I := I) (F := fN) (r := rN) hS hR (by omega) (by omega)) (d2 := d - 1) (by omega) (Nat.le_of_eq (Nat.zero_add _)) (Nat.le_of_eq (Nat.zero_add _)) ?_
        have hm1 : (-1 : Int32).toInt = -1 := by decide
        by_cases hfx : 1000 ≤ (G (174 + 84 * fN + 60 + 4 * rN + 1)).toInt
        · have hfv : (G (174 + 84 * fN + 60 + 4 * rN + 1) - nI 1000).toInt = ((rafNrN : Nat) : Int) - ((1000 : Nat) : Int) := by rw [u0fNrN]; exact nI_sub_toInt (by omega) (by omega)
          refine q_callv (M2 := mi_Ru_isFixed) (pc2 := 38) d_X_grow_35 rfl k_X_267 cm_Ru_isFixed cv_Ru_isFixed (sh_ru hS (show 0 < 3 by decide) (show fN < 12 by omega) (show rN < 6 by omega)) (by decide) rfl rfl rfl (Nat.le_of_ble_eq_true rfl) (c_Ru_isFixed (J := I) (q := ru 0 fN rN) (sh_ru hS (show 0 < 3 by decide) (show fN < 12 by omega) (show rN < 6 by omega)) (sh_rp hS (show 0 < 3 by decide) (show fN < 12 by omega) (show rN < 6 by omega)) (rf_rp hR (show 0 < 3 by decide) (show fN < 12 by omega) (show rN < 6 by omega))) (d2 := d - 1) (by omega) (Nat.le_of_eq (Nat.zero_add _)) (Nat.le_of_eq (Nat.zero_add _)) ?_
          rw [show I (ru 0 fN rN) 1 = G (174 + 84 * fN + 60 + 4 * rN + 1) - nI 1000 from rffNrN hfx]
          refine q_bif_eq (tgt := 48) (pc2 := 41) d_X_grow_38 rfl rfl (fun c6 => ?_) (fun c6 => ?_)
          · exfalso; omega
          · refine r_aload_n (x := some 0) (pc2 := 42) d_X_grow_41 rfl rfl ?_
            refine r_bipush (v := (-35 : Int32)) (pc2 := 44) d_X_grow_42 rfl (by decide) ?_
            refine q_callv (M2 := mi_X_refuse) (pc2 := 47) d_X_grow_44 rfl k_X_75 cm_X_refuse cv_X_refuse (sh_0 hS) (by decide) rfl rfl rfl (Nat.le_of_ble_eq_true rfl) (c_X_refuse_3 (J := I) hS hR) (d2 := d - 1) (by omega) (Nat.le_of_eq (Nat.zero_add _)) (Nat.le_of_eq (Nat.zero_add _)) ?_
            obtain ⟨I7, hI7⟩ : ∃ x, x = u2 I 744 3 (I 744 3 + nI 1) := ⟨_, rfl⟩
            rw [← hI7]
            refine Run.ret (some (.int ((-35 : Int32)))) d_X_grow_47 ⟨_, rfl⟩ ?_
            first | (exfalso; omega) | exact XP.bad hS 3 (by (try simp only [okPart, hz0, efN, b0fN, b1fN, b2fN, b3fN, b4fN, b5fN, b6fN, b8fN, b9fN, erN, t1fNrN, u1fNrN, v1fNrN, z1fNrN, ekN, enN, Int.toNat_natCast] at c1 c3 c5 c6); (unfold o_grow); (try dsimp only); (try simp only [okPart, hz0, efN, b0fN, b1fN, b2fN, b3fN, b4fN, b5fN, b6fN, b8fN, b9fN, erN, t1fNrN, u1fNrN, v1fNrN, z1fNrN, ekN, enN, Int.toNat_natCast]); (repeat (first | rw [if_pos (by omega)] | rw [if_neg (by omega)])); (try rfl); (all_goals first | rfl | (simp only [a0fN, a1fN, a2fN, a3fN, a4fN, a5fN, a6fN, a8fN, a9fN]; done) | (congr 2 <;> omega) | ((repeat' split) <;> first | rfl | (simp only [a0fN, a1fN, a2fN, a3fN, a4fN, a5fN, a6fN, a8fN, a9fN]; done) | (exfalso; omega) | (congr 2 <;> omega) | skip))) (by decide) FrXR.rf FrX.rf hI7
        · have hrs := rsfNrN hfx
          refine q_callv (M2 := mi_Ru_isFixed) (pc2 := 38) d_X_grow_35 rfl k_X_267 cm_Ru_isFixed cv_Ru_isFixed (sh_ru hS (show 0 < 3 by decide) (show fN < 12 by omega) (show rN < 6 by omega)) (by decide) rfl rfl rfl (Nat.le_of_ble_eq_true rfl) (c_Ru_isFixed (J := I) (q := ru 0 fN rN) (sh_ru hS (show 0 < 3 by decide) (show fN < 12 by omega) (show rN < 6 by omega)) (sh_rp hS (show 0 < 3 by decide) (show fN < 12 by omega) (show rN < 6 by omega)) (rf_rp hR (show 0 < 3 by decide) (show fN < 12 by omega) (show rN < 6 by omega))) (d2 := d - 1) (by omega) (Nat.le_of_eq (Nat.zero_add _)) (Nat.le_of_eq (Nat.zero_add _)) ?_
          rw [show I (ru 0 fN rN) 1 = (-1 : Int32) from hrs.1]
          refine q_bif_eq (tgt := 48) (pc2 := 41) d_X_grow_38 rfl rfl (fun c8 => ?_) (fun c8 => ?_)
          · refine r_aload_n (x := some 0) (pc2 := 49) d_X_grow_48 rfl rfl ?_
            refine r_iload_n (pc2 := 50) d_X_grow_49 rfl rfl ?_
            refine r_iload_n (pc2 := 51) d_X_grow_50 rfl rfl ?_
            refine r_iload_n (pc2 := 52) d_X_grow_51 rfl rfl ?_
            have hwr := wRfN rN (by omega)
            have hqx : 0 ≤ (G (174 + 84 * fN + 60 + 4 * rN + kN)).toInt ∧ (G (174 + 84 * fN + 60 + 4 * rN + kN)).toInt ≤ 333 := by
              rcases (show kN = 1 ∨ kN = 2 ∨ kN = 3 by omega) with z | z | z
              · rw [z]; omega
              · rw [z]; exact hwr.2.2.1
              · rw [z]; exact hwr.2.2.2
            refine r_callv (M2 := mi_X_findLeastParts) (pc2 := 55) d_X_grow_52 rfl k_X_352 cm_X_findLeastParts cv_X_findLeastParts (sh_0 hS) (by decide) rfl rfl rfl (Nat.le_of_ble_eq_true rfl) (c_X_findLeastParts hS hR hV hV2 hnt6 hW hWT hrk (F := fN) (r := rN) (k := kN) (by omega) (by rw [b4fN]; omega) hfx (by omega) hqx hD (d := d - 1) (by omega)) (d2 := d - 1) (by omega) (Nat.le_of_eq (Nat.zero_add _)) (Nat.le_of_eq (Nat.zero_add _)) (fun r2 h2 hq2 => ?_)
            obtain ⟨rfl, K, R1, rfl, hxK, hxR, hL⟩ := hq2
            change Run _ _ _ _ _ _ [] _ _
            refine r_iconst (v := nI 0) (pc2 := 56) d_X_grow_55 rfl (by decide) ?_
            refine r_istore (pc2 := 58) d_X_grow_56 rfl (Nat.le_of_ble_eq_true rfl) ?_
            have hnK : K 2 2 = nI nP := (DR.x hS hW (by decide) hD hxK hxR).1.1
            have hok := fun p (hp : p < nP) => (lpN_ok (tr := (TRK tK tF tC tS)) hW hrk (show fN < nF by omega) (r := rN) (by rw [b4fN]; omega) hfx (k := kN) (by omega) hp).1
            have hcc : ∀ v, v ≤ 333 → cnt (fun p => decide (lpN (TRK tK tF tC tS) G fN rN kN p ≤ v)) nP = cnt (enP (TRK tK tF tC tS) (u1 G (174 + 84 * fN + 60 + 4 * rN + kN) (nI 0)) fN rN kN v) nP := fun v hv => cnt_congr (fun p hp => by
              rw [Bool.eq_iff_iff, decide_eq_true_eq]; exact hok p hp v hv)
            refine Run.sub (l2 := [(0, .ref 0), (4, .int (nI nN)), (5, .int (nI 0))]) ⟨rfl, rfl, rfl, trivial⟩ ?_
            refine l_X_grow (J := K) (R := R1) hS (hxR.2 hR) hnK hP24 hL (fun q _ => lpN_le) (n := nN) (by omega) (fun v hv h1 h2 => ?_) (fun h1 => ?_) (by omega) _ 0 rfl (Nat.zero_le _) (fun j hj => absurd hj (by omega))
            · have hg : growB (TRK tK tF tC tS) G nP fN rN kN nN = some v := fst1_some (fun j hj => decide_eq_false (by rw [← hcc j (by omega)]; exact h1 j hj)) (decide_eq_true (by rw [← hcc v hv]; exact h2)) (by omega)
              refine XP.val ?_ hxR hxK
              (try simp only [Int.toNat_natCast] at *); unfold o_grow okPart; simp only [okPart, hz0, efN, b0fN, b1fN, b2fN, b3fN, b4fN, b5fN, b6fN, b8fN, b9fN, erN, t1fNrN, u1fNrN, v1fNrN, z1fNrN, ekN, enN, Int.toNat_natCast]; (repeat (first | rw [if_pos (by omega)] | rw [if_neg (by omega)])); rw [hg]; rfl
            · have hg : growB (TRK tK tF tC tS) G nP fN rN kN nN = none := fst1_none (fun j hj => decide_eq_false (by rw [← hcc j (by omega)]; exact h1 j hj))
              refine XP.val ?_ hxR hxK
              (try simp only [Int.toNat_natCast] at *); unfold o_grow okPart; simp only [okPart, hz0, efN, b0fN, b1fN, b2fN, b3fN, b4fN, b5fN, b6fN, b8fN, b9fN, erN, t1fNrN, u1fNrN, v1fNrN, z1fNrN, ekN, enN, Int.toNat_natCast]; (repeat (first | rw [if_pos (by omega)] | rw [if_neg (by omega)])); rw [hg]; rfl
          · refine r_aload_n (x := some 0) (pc2 := 42) d_X_grow_41 rfl rfl ?_
            refine r_bipush (v := (-35 : Int32)) (pc2 := 44) d_X_grow_42 rfl (by decide) ?_
            refine q_callv (M2 := mi_X_refuse) (pc2 := 47) d_X_grow_44 rfl k_X_75 cm_X_refuse cv_X_refuse (sh_0 hS) (by decide) rfl rfl rfl (Nat.le_of_ble_eq_true rfl) (c_X_refuse_3 (J := I) hS hR) (d2 := d - 1) (by omega) (Nat.le_of_eq (Nat.zero_add _)) (Nat.le_of_eq (Nat.zero_add _)) ?_
            obtain ⟨I9, hI9⟩ : ∃ x, x = u2 I 744 3 (I 744 3 + nI 1) := ⟨_, rfl⟩
            rw [← hI9]
            refine Run.ret (some (.int ((-35 : Int32)))) d_X_grow_47 ⟨_, rfl⟩ ?_
            first | (exfalso; omega) | exact XP.bad hS 3 (by (try simp only [okPart, hz0, efN, b0fN, b1fN, b2fN, b3fN, b4fN, b5fN, b6fN, b8fN, b9fN, erN, t1fNrN, u1fNrN, v1fNrN, z1fNrN, ekN, enN, Int.toNat_natCast] at c1 c3 c5 c8); (unfold o_grow); (try dsimp only); (try simp only [okPart, hz0, efN, b0fN, b1fN, b2fN, b3fN, b4fN, b5fN, b6fN, b8fN, b9fN, erN, t1fNrN, u1fNrN, v1fNrN, z1fNrN, ekN, enN, Int.toNat_natCast]); (repeat (first | rw [if_pos (by omega)] | rw [if_neg (by omega)])); (try rfl); (all_goals first | rfl | (simp only [a0fN, a1fN, a2fN, a3fN, a4fN, a5fN, a6fN, a8fN, a9fN]; done) | (congr 2 <;> omega) | ((repeat' split) <;> first | rfl | (simp only [a0fN, a1fN, a2fN, a3fN, a4fN, a5fN, a6fN, a8fN, a9fN]; done) | (exfalso; omega) | (congr 2 <;> omega) | skip))) (by decide) FrXR.rf FrX.rf hI9
      · refine r_aload_n (x := some 0) (pc2 := 23) d_X_grow_22 rfl rfl ?_
        refine r_bipush (v := (-32 : Int32)) (pc2 := 25) d_X_grow_23 rfl (by decide) ?_
        refine q_callv (M2 := mi_X_refuse) (pc2 := 28) d_X_grow_25 rfl k_X_75 cm_X_refuse cv_X_refuse (sh_0 hS) (by decide) rfl rfl rfl (Nat.le_of_ble_eq_true rfl) (c_X_refuse_0 (J := I) hS hR) (d2 := d - 1) (by omega) (Nat.le_of_eq (Nat.zero_add _)) (Nat.le_of_eq (Nat.zero_add _)) ?_
        obtain ⟨I10, hI10⟩ : ∃ x, x = u2 I 744 0 (I 744 0 + nI 1) := ⟨_, rfl⟩
        rw [← hI10]
        refine Run.ret (some (.int ((-32 : Int32)))) d_X_grow_28 ⟨_, rfl⟩ ?_
        first | (exfalso; omega) | exact XP.bad hS 0 (by (try simp only [okPart, hz0, efN, b0fN, b1fN, b2fN, b3fN, b4fN, b5fN, b6fN, b8fN, b9fN, erN, t1fNrN, u1fNrN, v1fNrN, z1fNrN, ekN, Int.toNat_natCast] at c1 c3 c5); (unfold o_grow); (try dsimp only); (try simp only [okPart, hz0, efN, b0fN, b1fN, b2fN, b3fN, b4fN, b5fN, b6fN, b8fN, b9fN, erN, t1fNrN, u1fNrN, v1fNrN, z1fNrN, ekN, Int.toNat_natCast]); (repeat (first | rw [if_pos (by omega)] | rw [if_neg (by omega)])); (try rfl); (all_goals first | rfl | (simp only [a0fN, a1fN, a2fN, a3fN, a4fN, a5fN, a6fN, a8fN, a9fN]; done) | (congr 2 <;> omega) | ((repeat' split) <;> first | rfl | (simp only [a0fN, a1fN, a2fN, a3fN, a4fN, a5fN, a6fN, a8fN, a9fN]; done) | (exfalso; omega) | (congr 2 <;> omega) | skip))) (by decide) FrXR.rf FrX.rf hI10
