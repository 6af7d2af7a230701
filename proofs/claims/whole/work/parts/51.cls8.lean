/-! THE CLASS: askings -/
theorem c_X_personOf {d : Nat} {I : Nat → Nat → Int32} {R : Nat → Nat → Option Nat} {L : Nat → Nat → Int64} {sh : Nat → Nat × Nat} {N : Nat} (hS : ShOK sh) (hR : RfOK R) {tK tF tC tS : Nat → Int32} {nt : Nat} (hV : TV tK tF tC nt) (hV2 : TV2 tK tF tC tS nt) (hnt6 : nt ≤ 1000000) {G : Nat → Int32} {nP nF nS : Nat} (hW : WFA G nP nF nt) (hWT : WFT G nF nS) (hKW : WFK G nP nF) {rk : Nat → Nat} (hrk : RK G nF rk) (hD : DR tK tF tC tS I R sh nt 0 G nP nF nS) {i : Int32} (hd : 80 ≤ d) : Mt mi_X_personOf d 0 0 [.ref 0, .int i] (I, R, L, sh, N) (XP I R L sh N (o_personOf G nP i) (fun K _ => FrX sh I K)) := by
  obtain ⟨hPc, hP24, hFc, hF12, hWF, hWP⟩ := id hW
  refine Mt.of pn_X (Nat.le_of_ble_eq_true rfl) ?_
  show Run mi_X_personOf d 0 0 0 [(0, .ref 0), (1, .int i)] [] (I, R, L, sh, N) _
  refine r_iload_n (pc2 := 1) d_X_personOf_0 rfl rfl ?_
  refine q_if_lt (tgt := 18) (A := i.toInt) (pc2 := 4) d_X_personOf_1 rfl rfl (rfl) (fun c1 => ?_) (fun c1 => ?_)
  · refine r_aload_n (x := some 0) (pc2 := 19) d_X_personOf_18 rfl rfl ?_
    refine r_bipush (v := (-32 : Int32)) (pc2 := 21) d_X_personOf_19 rfl (by decide) ?_
    refine q_callv (M2 := mi_X_refuse) (pc2 := 24) d_X_personOf_21 rfl k_X_75 cm_X_refuse cv_X_refuse (sh_0 hS) (by decide) rfl rfl rfl (Nat.le_of_ble_eq_true rfl) (c_X_refuse_0 (J := I) hS hR) (d2 := d - 1) (by omega) (Nat.le_of_eq (Nat.zero_add _)) (Nat.le_of_eq (Nat.zero_add _)) ?_
    obtain ⟨I2, hI2⟩ : ∃ x, x = u2 I 744 0 (I 744 0 + nI 1) := ⟨_, rfl⟩
    rw [← hI2]
    refine Run.ret (some (.int ((-32 : Int32)))) d_X_personOf_24 ⟨_, rfl⟩ ?_
    exact XP.bad hS 0 (by (unfold o_personOf); (try dsimp only); (try simp only [Int.toNat_natCast]); (repeat (first | rw [if_pos (by omega)] | rw [if_neg (by omega)])); (try rfl); (all_goals first | rfl | (congr 2 <;> omega) | ((repeat' split) <;> first | rfl | (exfalso; omega) | (congr 2 <;> omega) | skip))) (by decide) FrXR.rf FrX.rf hI2
  · refine r_iload_n (pc2 := 5) d_X_personOf_4 rfl rfl ?_
    refine r_aload_n (x := some 0) (pc2 := 6) d_X_personOf_5 rfl rfl ?_
    refine q_getR (x := some 1) (pc2 := 9) d_X_personOf_6 rfl k_X_12 rfl (sh_0 hS) (rf_0_0 hR) ?_
    refine q_getR (x := some 2) (pc2 := 12) d_X_personOf_9 rfl k_X_179 rfl (sh_1 hS) (rf_1_0 hR) ?_
    refine q_getI (x := nI nP) (pc2 := 15) d_X_personOf_12 rfl k_X_189 (by decide) (sh_2 hS) hD.1.1 ?_
    refine q_icmp_lt (tgt := 25) (A := i.toInt) (B := ((nP : Nat) : Int)) (pc2 := 18) d_X_personOf_15 rfl rfl (rfl) (nI_toInt (by omega)) (fun c3 => ?_) (fun c3 => ?_)
    · obtain ⟨iN, hiN, rfl, eiN⟩ := nat_of (show 0 ≤ i.toInt ∧ i.toInt < (nP : Int) by omega)
      refine r_aload_n (x := some 0) (pc2 := 26) d_X_personOf_25 rfl rfl ?_
      refine q_getR (x := some 1) (pc2 := 29) d_X_personOf_26 rfl k_X_12 rfl (sh_0 hS) (rf_0_0 hR) ?_
      refine q_getR (x := some 2) (pc2 := 32) d_X_personOf_29 rfl k_X_179 rfl (sh_1 hS) (rf_1_0 hR) ?_
      refine q_getR (x := some 3) (pc2 := 35) d_X_personOf_32 rfl k_X_202 rfl (sh_2 hS) (rf_2_0 hR) ?_
      refine r_iload_n (pc2 := 36) d_X_personOf_35 rfl rfl ?_
      refine q_iaload (q := iN) (x := G (6 + 2 * iN)) (pc2 := 37) d_X_personOf_36 rfl (sh_3 hS) (nI_toInt (by omega)) (by omega) ((hD.2.1 iN (by omega)).1) ?_
      refine Run.ret (some (.int (G (6 + 2 * iN)))) d_X_personOf_37 ⟨_, rfl⟩ ?_
      exact XP.val (by (try simp only [eiN, Int.toNat_natCast] at c1 c3); (unfold o_personOf); (try dsimp only); (try simp only [eiN, Int.toNat_natCast]); (repeat (first | rw [if_pos (by omega)] | rw [if_neg (by omega)])); (try rfl); (all_goals first | rfl | (congr 2 <;> omega) | ((repeat' split) <;> first | rfl | (exfalso; omega) | (congr 2 <;> omega) | skip))) FrXR.rf FrX.rf
    · refine r_aload_n (x := some 0) (pc2 := 19) d_X_personOf_18 rfl rfl ?_
      refine r_bipush (v := (-32 : Int32)) (pc2 := 21) d_X_personOf_19 rfl (by decide) ?_
      refine q_callv (M2 := mi_X_refuse) (pc2 := 24) d_X_personOf_21 rfl k_X_75 cm_X_refuse cv_X_refuse (sh_0 hS) (by decide) rfl rfl rfl (Nat.le_of_ble_eq_true rfl) (c_X_refuse_0 (J := I) hS hR) (d2 := d - 1) (by omega) (Nat.le_of_eq (Nat.zero_add _)) (Nat.le_of_eq (Nat.zero_add _)) ?_
      obtain ⟨I4, hI4⟩ : ∃ x, x = u2 I 744 0 (I 744 0 + nI 1) := ⟨_, rfl⟩
      rw [← hI4]
      refine Run.ret (some (.int ((-32 : Int32)))) d_X_personOf_24 ⟨_, rfl⟩ ?_
      exact XP.bad hS 0 (by (unfold o_personOf); (try dsimp only); (try simp only [Int.toNat_natCast]); (repeat (first | rw [if_pos (by omega)] | rw [if_neg (by omega)])); (try rfl); (all_goals first | rfl | (congr 2 <;> omega) | ((repeat' split) <;> first | rfl | (exfalso; omega) | (congr 2 <;> omega) | skip))) (by decide) FrXR.rf FrX.rf hI4
theorem c_X_attributes {d : Nat} {I : Nat → Nat → Int32} {R : Nat → Nat → Option Nat} {L : Nat → Nat → Int64} {sh : Nat → Nat × Nat} {N : Nat} (hS : ShOK sh) (hR : RfOK R) {tK tF tC tS : Nat → Int32} {nt : Nat} (hV : TV tK tF tC nt) (hV2 : TV2 tK tF tC tS nt) (hnt6 : nt ≤ 1000000) {G : Nat → Int32} {nP nF nS : Nat} (hW : WFA G nP nF nt) (hWT : WFT G nF nS) (hKW : WFK G nP nF) {rk : Nat → Nat} (hrk : RK G nF rk) (hD : DR tK tF tC tS I R sh nt 0 G nP nF nS) {key : Int32} (hd : 80 ≤ d) : Mt mi_X_attributes d 0 0 [.ref 0, .int key] (I, R, L, sh, N) (XP I R L sh N (o_attributes G nP key) (fun K _ => FrX sh I K)) := by
  obtain ⟨hPc, hP24, hFc, hF12, hWF, hWP⟩ := id hW
  refine Mt.of pn_X (Nat.le_of_ble_eq_true rfl) ?_
  show Run mi_X_attributes d 0 0 0 [(0, .ref 0), (1, .int key)] [] (I, R, L, sh, N) _
  refine r_aload_n (x := some 0) (pc2 := 1) d_X_attributes_0 rfl rfl ?_
  refine q_getR (x := some 1) (pc2 := 4) d_X_attributes_1 rfl k_X_12 rfl (sh_0 hS) (rf_0_0 hR) ?_
  refine q_getR (x := some 2) (pc2 := 7) d_X_attributes_4 rfl k_X_179 rfl (sh_1 hS) (rf_1_0 hR) ?_
  refine r_iload_n (pc2 := 8) d_X_attributes_7 rfl rfl ?_
  refine r_i2l (pc2 := 9) d_X_attributes_8 rfl ?_
  refine q_callv (M2 := mi_Pe_find) (pc2 := 12) d_X_attributes_9 rfl k_X_183 cm_Pe_find cv_Pe_find (sh_2 hS) (by decide) rfl rfl rfl (Nat.le_of_ble_eq_true rfl) (c_Pe_find (x := key.toInt64) hS hR hV hV2 hnt6 hW hWT hKW hrk hD) (d2 := d - 1) (by omega) (Nat.le_of_eq (Nat.zero_add _)) (Nat.le_of_eq (Nat.zero_add _)) ?_
  refine q_top (y := vo (pB G nP key)) (by rw [fL_i]) ?_
  cases hopkkey : pB G nP key with
  | none =>
    refine r_istore_n (pc2 := 13) d_X_attributes_12 rfl rfl (Nat.le_of_ble_eq_true rfl) ?_
    refine r_iload_n (pc2 := 14) d_X_attributes_13 rfl rfl ?_
    refine r_iconst (v := (-1 : Int32)) (pc2 := 15) d_X_attributes_14 rfl (by decide) ?_
    refine q_icmp_ne (tgt := 25) (A := (-1 : Int)) (B := (-1 : Int)) (pc2 := 18) d_X_attributes_15 rfl rfl (by decide) (by decide) (fun c1 => ?_) (fun c1 => ?_)
    · exfalso; omega
    refine r_aload_n (x := some 0) (pc2 := 19) d_X_attributes_18 rfl rfl ?_
    refine r_bipush (v := (-32 : Int32)) (pc2 := 21) d_X_attributes_19 rfl (by decide) ?_
    refine q_callv (M2 := mi_X_refuse) (pc2 := 24) d_X_attributes_21 rfl k_X_75 cm_X_refuse cv_X_refuse (sh_0 hS) (by decide) rfl rfl rfl (Nat.le_of_ble_eq_true rfl) (c_X_refuse_0 (J := I) hS hR) (d2 := d - 1) (by omega) (Nat.le_of_eq (Nat.zero_add _)) (Nat.le_of_eq (Nat.zero_add _)) ?_
    obtain ⟨I2, hI2⟩ : ∃ x, x = u2 I 744 0 (I 744 0 + nI 1) := ⟨_, rfl⟩
    rw [← hI2]
    refine Run.ret (some (.int ((-32 : Int32)))) d_X_attributes_24 ⟨_, rfl⟩ ?_
    first | (exfalso; omega) | exact XP.bad hS 0 (by (unfold o_attributes); (try dsimp only); (try simp only [Int.toNat_natCast]); (repeat (first | rw [if_pos (by omega)] | rw [if_neg (by omega)] | (rw [hopkkey]; try dsimp only))); (try rfl); (all_goals first | rfl | (congr 2 <;> omega) | ((repeat' split) <;> first | rfl | (exfalso; omega) | (congr 2 <;> omega) | skip))) (by decide) FrXR.rf FrX.rf hI2
  | some pkkey =>
    obtain ⟨hppkkey, hqpkkey, -⟩ := fst1_spec (show fst1 _ _ = some pkkey from hopkkey)
    refine r_istore_n (pc2 := 13) d_X_attributes_12 rfl rfl (Nat.le_of_ble_eq_true rfl) ?_
    refine r_iload_n (pc2 := 14) d_X_attributes_13 rfl rfl ?_
    refine r_iconst (v := (-1 : Int32)) (pc2 := 15) d_X_attributes_14 rfl (by decide) ?_
    refine q_icmp_ne (tgt := 25) (A := ((pkkey : Nat) : Int)) (B := (-1 : Int)) (pc2 := 18) d_X_attributes_15 rfl rfl (nI_toInt (by omega)) (by decide) (fun c3 => ?_) (fun c3 => ?_)
    rotate_left
    · exfalso; omega
    refine r_aload_n (x := some 0) (pc2 := 26) d_X_attributes_25 rfl rfl ?_
    refine q_getR (x := some 1) (pc2 := 29) d_X_attributes_26 rfl k_X_12 rfl (sh_0 hS) (rf_0_0 hR) ?_
    refine q_getR (x := some 2) (pc2 := 32) d_X_attributes_29 rfl k_X_179 rfl (sh_1 hS) (rf_1_0 hR) ?_
    refine q_getR (x := some 4) (pc2 := 35) d_X_attributes_32 rfl k_X_195 rfl (sh_2 hS) (rf_2_1 hR) ?_
    refine r_iload_n (pc2 := 36) d_X_attributes_35 rfl rfl ?_
    refine q_iaload (q := pkkey) (x := G (6 + 2 * pkkey + 1)) (pc2 := 37) d_X_attributes_36 rfl (sh_4 hS) (nI_toInt (by omega)) (by omega) ((hD.2.1 pkkey (by omega)).2) ?_
    refine Run.ret (some (.int (G (6 + 2 * pkkey + 1)))) d_X_attributes_37 ⟨_, rfl⟩ ?_
    first | (exfalso; omega) | exact XP.val (by (unfold o_attributes); (try dsimp only); (try simp only [Int.toNat_natCast]); (repeat (first | rw [if_pos (by omega)] | rw [if_neg (by omega)] | (rw [hopkkey]; try dsimp only))); (try rfl); (all_goals first | rfl | (congr 2 <;> omega) | ((repeat' split) <;> first | rfl | (exfalso; omega) | (congr 2 <;> omega) | skip))) FrXR.rf FrX.rf
theorem c_X_bucket {d : Nat} {I : Nat → Nat → Int32} {R : Nat → Nat → Option Nat} {L : Nat → Nat → Int64} {sh : Nat → Nat × Nat} {N : Nat} (hS : ShOK sh) (hR : RfOK R) {tK tF tC tS : Nat → Int32} {nt : Nat} (hV : TV tK tF tC nt) (hV2 : TV2 tK tF tC tS nt) (hnt6 : nt ≤ 1000000) {G : Nat → Int32} {nP nF nS : Nat} (hW : WFA G nP nF nt) (hWT : WFT G nF nS) (hKW : WFK G nP nF) {rk : Nat → Nat} (hrk : RK G nF rk) (hD : DR tK tF tC tS I R sh nt 0 G nP nF nS) {s : Int32} {k : Int32} (hd : 80 ≤ d) : Mt mi_X_bucket d 0 0 [.ref 0, .int s, .int k] (I, R, L, sh, N) (XP I R L sh N (o_bucket s k) (fun K _ => FrX sh I K)) := by
  obtain ⟨hPc, hP24, hFc, hF12, hWF, hWP⟩ := id hW
  refine Mt.of pn_X (Nat.le_of_ble_eq_true rfl) ?_
  show Run mi_X_bucket d 0 0 0 [(0, .ref 0), (1, .int s), (2, .int k)] [] (I, R, L, sh, N) _
  refine r_iload_n (pc2 := 1) d_X_bucket_0 rfl rfl ?_
  refine q_if_lt (tgt := 19) (A := s.toInt) (pc2 := 4) d_X_bucket_1 rfl rfl (rfl) (fun c1 => ?_) (fun c1 => ?_)
  · refine r_aload_n (x := some 0) (pc2 := 20) d_X_bucket_19 rfl rfl ?_
    refine r_bipush (v := (-32 : Int32)) (pc2 := 22) d_X_bucket_20 rfl (by decide) ?_
    refine q_callv (M2 := mi_X_refuse) (pc2 := 25) d_X_bucket_22 rfl k_X_75 cm_X_refuse cv_X_refuse (sh_0 hS) (by decide) rfl rfl rfl (Nat.le_of_ble_eq_true rfl) (c_X_refuse_0 (J := I) hS hR) (d2 := d - 1) (by omega) (Nat.le_of_eq (Nat.zero_add _)) (Nat.le_of_eq (Nat.zero_add _)) ?_
    obtain ⟨I2, hI2⟩ : ∃ x, x = u2 I 744 0 (I 744 0 + nI 1) := ⟨_, rfl⟩
    rw [← hI2]
    refine Run.ret (some (.int ((-32 : Int32)))) d_X_bucket_25 ⟨_, rfl⟩ ?_
    exact XP.bad hS 0 (by (unfold o_bucket); (try dsimp only); (try simp only [Int.toNat_natCast]); (repeat (first | rw [if_pos (by omega)] | rw [if_neg (by omega)])); (try rfl); (all_goals first | rfl | (congr 2 <;> omega) | ((repeat' split) <;> first | rfl | (exfalso; omega) | (congr 2 <;> omega) | skip))) (by decide) FrXR.rf FrX.rf hI2
  · refine r_iload_n (pc2 := 5) d_X_bucket_4 rfl rfl ?_
    refine r_sipush (v := nI 200) (pc2 := 8) d_X_bucket_5 rfl (by decide) ?_
    refine q_icmp_gt (tgt := 19) (A := s.toInt) (B := (200 : Int)) (pc2 := 11) d_X_bucket_8 rfl rfl (rfl) (nI_toInt (by omega)) (fun c3 => ?_) (fun c3 => ?_)
    · refine r_aload_n (x := some 0) (pc2 := 20) d_X_bucket_19 rfl rfl ?_
      refine r_bipush (v := (-32 : Int32)) (pc2 := 22) d_X_bucket_20 rfl (by decide) ?_
      refine q_callv (M2 := mi_X_refuse) (pc2 := 25) d_X_bucket_22 rfl k_X_75 cm_X_refuse cv_X_refuse (sh_0 hS) (by decide) rfl rfl rfl (Nat.le_of_ble_eq_true rfl) (c_X_refuse_0 (J := I) hS hR) (d2 := d - 1) (by omega) (Nat.le_of_eq (Nat.zero_add _)) (Nat.le_of_eq (Nat.zero_add _)) ?_
      obtain ⟨I4, hI4⟩ : ∃ x, x = u2 I 744 0 (I 744 0 + nI 1) := ⟨_, rfl⟩
      rw [← hI4]
      refine Run.ret (some (.int ((-32 : Int32)))) d_X_bucket_25 ⟨_, rfl⟩ ?_
      exact XP.bad hS 0 (by (unfold o_bucket); (try dsimp only); (try simp only [Int.toNat_natCast]); (repeat (first | rw [if_pos (by omega)] | rw [if_neg (by omega)])); (try rfl); (all_goals first | rfl | (congr 2 <;> omega) | ((repeat' split) <;> first | rfl | (exfalso; omega) | (congr 2 <;> omega) | skip))) (by decide) FrXR.rf FrX.rf hI4
    · refine r_aload_n (x := some 0) (pc2 := 12) d_X_bucket_11 rfl rfl ?_
      refine r_iload_n (pc2 := 13) d_X_bucket_12 rfl rfl ?_
      refine q_callv (M2 := mi_X_isKey) (pc2 := 16) d_X_bucket_13 rfl k_X_176 cm_X_isKey cv_X_isKey (sh_0 hS) (by decide) rfl rfl rfl (Nat.le_of_ble_eq_true rfl) (c_X_isKey (s := k)) (d2 := d - 1) (by omega) (Nat.le_of_eq (Nat.zero_add _)) (Nat.le_of_eq (Nat.zero_add _)) ?_
      refine q_bif_ne (tgt := 26) (pc2 := 19) d_X_bucket_16 rfl rfl (fun c5 => ?_) (fun c5 => ?_)
      · obtain ⟨kN, hkN, gkN, rfl, ekN⟩ := nat_of' (Int.le_refl 0) c5
        refine r_iload_n (pc2 := 27) d_X_bucket_26 rfl rfl ?_
        refine r_iload_n (pc2 := 28) d_X_bucket_27 rfl rfl ?_
        refine q_calls (M2 := mi_X_bucketBy) (pc2 := 31) d_X_bucket_28 rfl k_X_205 cm_X_bucketBy cs_X_bucketBy rfl rfl (Nat.le_of_ble_eq_true rfl) (c_X_bucketBy (s := s) (k := nI kN)) (d2 := d - 1) (by omega) (Nat.le_of_eq (Nat.zero_add _)) (Nat.le_of_eq (Nat.zero_add _)) ?_
        refine Run.ret (some (.int (bkt s (nI kN)))) d_X_bucket_31 ⟨_, rfl⟩ ?_
        exact XP.val (by (try simp only [ekN, Int.toNat_natCast] at c1 c3 c5); (unfold o_bucket); (try dsimp only); (try simp only [ekN, Int.toNat_natCast]); (repeat (first | rw [if_pos (by omega)] | rw [if_neg (by omega)])); (try rfl); (all_goals first | rfl | (congr 2 <;> omega) | ((repeat' split) <;> first | rfl | (exfalso; omega) | (congr 2 <;> omega) | skip))) FrXR.rf FrX.rf
      · refine r_aload_n (x := some 0) (pc2 := 20) d_X_bucket_19 rfl rfl ?_
        refine r_bipush (v := (-32 : Int32)) (pc2 := 22) d_X_bucket_20 rfl (by decide) ?_
        refine q_callv (M2 := mi_X_refuse) (pc2 := 25) d_X_bucket_22 rfl k_X_75 cm_X_refuse cv_X_refuse (sh_0 hS) (by decide) rfl rfl rfl (Nat.le_of_ble_eq_true rfl) (c_X_refuse_0 (J := I) hS hR) (d2 := d - 1) (by omega) (Nat.le_of_eq (Nat.zero_add _)) (Nat.le_of_eq (Nat.zero_add _)) ?_
        obtain ⟨I6, hI6⟩ : ∃ x, x = u2 I 744 0 (I 744 0 + nI 1) := ⟨_, rfl⟩
        rw [← hI6]
        refine Run.ret (some (.int ((-32 : Int32)))) d_X_bucket_25 ⟨_, rfl⟩ ?_
        exact XP.bad hS 0 (by (unfold o_bucket); (try dsimp only); (try simp only [Int.toNat_natCast]); (repeat (first | rw [if_pos (by omega)] | rw [if_neg (by omega)])); (try rfl); (all_goals first | rfl | (congr 2 <;> omega) | ((repeat' split) <;> first | rfl | (exfalso; omega) | (congr 2 <;> omega) | skip))) (by decide) FrXR.rf FrX.rf hI6
theorem c_X_counted {d : Nat} {I : Nat → Nat → Int32} {R : Nat → Nat → Option Nat} {L : Nat → Nat → Int64} {sh : Nat → Nat × Nat} {N : Nat} (hS : ShOK sh) (hR : RfOK R) {tK tF tC tS : Nat → Int32} {nt : Nat} (hV : TV tK tF tC nt) (hV2 : TV2 tK tF tC tS nt) (hnt6 : nt ≤ 1000000) {G : Nat → Int32} {nP nF nS : Nat} (hW : WFA G nP nF nt) (hWT : WFT G nF nS) (hKW : WFK G nP nF) {rk : Nat → Nat} (hrk : RK G nF rk) (hD : DR tK tF tC tS I R sh nt 0 G nP nF nS) {f : Int32} {v : Int32} (hd : 80 ≤ d) : Mt mi_X_counted d 0 0 [.ref 0, .int f, .int v] (I, R, L, sh, N) (XP I R L sh N (o_counted G nF f v) (fun K _ => FrX sh I K)) := by
  obtain ⟨hPc, hP24, hFc, hF12, hWF, hWP⟩ := id hW
  refine Mt.of pn_X (Nat.le_of_ble_eq_true rfl) ?_
  show Run mi_X_counted d 0 0 0 [(0, .ref 0), (1, .int f), (2, .int v)] [] (I, R, L, sh, N) _
  refine r_aload_n (x := some 0) (pc2 := 1) d_X_counted_0 rfl rfl ?_
  refine r_iload_n (pc2 := 2) d_X_counted_1 rfl rfl ?_
  refine r_iload_n (pc2 := 3) d_X_counted_2 rfl rfl ?_
  refine q_callv (M2 := mi_X_isVariant) (pc2 := 6) d_X_counted_3 rfl k_X_271 cm_X_isVariant cv_X_isVariant (sh_0 hS) (by decide) rfl rfl rfl (Nat.le_of_ble_eq_true rfl) (c_X_isVariant (f := f) (v := v) hS hR hV hV2 hnt6 hW hWT hKW hrk hD (by omega)) (d2 := d - 1) (by omega) (Nat.le_of_eq (Nat.zero_add _)) (Nat.le_of_eq (Nat.zero_add _)) ?_
  refine q_bif_ne (tgt := 16) (pc2 := 9) d_X_counted_6 rfl rfl (fun c1 => ?_) (fun c1 => ?_)
  · obtain ⟨fN, hfN, rfl, efN⟩ := nat_of c1.1
    obtain ⟨tpfN, klfN, skfN, fbfN, nRfN, nNfN, nOfN, frfN, tofN, ⟨a0fN, b0fN, cc0fN, dd0fN⟩, ⟨a1fN, b1fN, cc1fN, dd1fN⟩, ⟨a2fN, b2fN, cc2fN, dd2fN⟩, ⟨a3fN, b3fN, cc3fN, dd3fN⟩, ⟨a4fN, b4fN, cc4fN, dd4fN⟩, ⟨a5fN, b5fN, cc5fN, dd5fN⟩, ⟨a6fN, b6fN, cc6fN, dd6fN⟩, ⟨a8fN, b8fN, cc8fN, dd8fN⟩, ⟨a9fN, b9fN, cc9fN, dd9fN⟩⟩ := wfn (hWF fN (by omega))
    obtain ⟨-, -, -, -, -, -, -, w7fN, -, -, wNfN, wRfN, wKfN, wOfN⟩ := hWF fN (by omega)
    obtain ⟨⟨x0fN, x1fN, x2fN, x3fN, x4fN, x5fN, x6fN, x7fN, x8fN⟩, xnfN, xofN, xkfN, xcfN, xrfN⟩ := hD.2.2.2.1 fN (by omega)
    simp only [efN, Int.toNat_natCast, b0fN] at c1
    obtain ⟨vN, hvN, gvN, rfl, evN⟩ := nat_of' (Int.le_refl 0) c1.2
    refine r_aload_n (x := some 0) (pc2 := 17) d_X_counted_16 rfl rfl ?_
    refine q_getR (x := some 1) (pc2 := 20) d_X_counted_17 rfl k_X_12 rfl (sh_0 hS) (rf_0_0 hR) ?_
    refine q_getR (x := some 5) (pc2 := 23) d_X_counted_20 rfl k_X_211 rfl (sh_1 hS) (rf_1_1 hR) ?_
    refine r_iload_n (pc2 := 24) d_X_counted_23 rfl rfl ?_
    refine q_aaload (q := fN) (x := some (fe 0 fN)) (pc2 := 25) d_X_counted_24 rfl (sh_5 hS) (by decide) (by decide) (nI_toInt (by omega)) (by omega) (rf_fe hR (show 0 < 3 by decide) (show fN < 12 by omega)) ?_
    refine q_getR (x := some (fe 0 fN + 6)) (pc2 := 28) d_X_counted_25 rfl k_X_349 rfl (sh_fe0 hS (show 0 < 3 by decide) (show fN < 12 by omega)) (rf_fe_11 hR (show 0 < 3 by decide) (show fN < 12 by omega)) ?_
    refine r_iload_n (pc2 := 29) d_X_counted_28 rfl rfl ?_
    refine q_iaload (q := vN) (x := G (174 + 84 * fN + (10 + vN))) (pc2 := 30) d_X_counted_29 rfl (sh_fe6 hS (show 0 < 3 by decide) (show fN < 12 by omega)) (nI_toInt (by omega)) (by omega) (xcfN vN (by omega)) ?_
    refine Run.ret (some (.int (G (174 + 84 * fN + (10 + vN))))) d_X_counted_30 ⟨_, rfl⟩ ?_
    exact XP.val (by (try simp only [efN, b0fN, b1fN, b2fN, b3fN, b4fN, b5fN, b6fN, b8fN, b9fN, evN, Int.toNat_natCast] at c1); (unfold o_counted); (try dsimp only); (try simp only [efN, b0fN, b1fN, b2fN, b3fN, b4fN, b5fN, b6fN, b8fN, b9fN, evN, Int.toNat_natCast]); (repeat (first | rw [if_pos (by omega)] | rw [if_neg (by omega)])); (try rfl); (all_goals first | rfl | (simp only [a0fN, a1fN, a2fN, a3fN, a4fN, a5fN, a6fN, a8fN, a9fN]; done) | (congr 2 <;> omega) | ((repeat' split) <;> first | rfl | (simp only [a0fN, a1fN, a2fN, a3fN, a4fN, a5fN, a6fN, a8fN, a9fN]; done) | (exfalso; omega) | (congr 2 <;> omega) | skip))) FrXR.rf FrX.rf
  · refine r_aload_n (x := some 0) (pc2 := 10) d_X_counted_9 rfl rfl ?_
    refine r_bipush (v := (-32 : Int32)) (pc2 := 12) d_X_counted_10 rfl (by decide) ?_
    refine q_callv (M2 := mi_X_refuse) (pc2 := 15) d_X_counted_12 rfl k_X_75 cm_X_refuse cv_X_refuse (sh_0 hS) (by decide) rfl rfl rfl (Nat.le_of_ble_eq_true rfl) (c_X_refuse_0 (J := I) hS hR) (d2 := d - 1) (by omega) (Nat.le_of_eq (Nat.zero_add _)) (Nat.le_of_eq (Nat.zero_add _)) ?_
    obtain ⟨I2, hI2⟩ : ∃ x, x = u2 I 744 0 (I 744 0 + nI 1) := ⟨_, rfl⟩
    rw [← hI2]
    refine Run.ret (some (.int ((-32 : Int32)))) d_X_counted_15 ⟨_, rfl⟩ ?_
    exact XP.bad hS 0 (by (unfold o_counted); (try dsimp only); (try simp only [Int.toNat_natCast]); (repeat (first | rw [if_pos (by omega)] | rw [if_neg (by omega)])); (try rfl); (all_goals first | rfl | (congr 2 <;> omega) | ((repeat' split) <;> first | rfl | (exfalso; omega) | (congr 2 <;> omega) | skip))) (by decide) FrXR.rf FrX.rf hI2
theorem c_X_would {d : Nat} {I : Nat → Nat → Int32} {R : Nat → Nat → Option Nat} {L : Nat → Nat → Int64} {sh : Nat → Nat × Nat} {N : Nat} (hS : ShOK sh) (hR : RfOK R) {tK tF tC tS : Nat → Int32} {nt : Nat} (hV : TV tK tF tC nt) (hV2 : TV2 tK tF tC tS nt) (hnt6 : nt ≤ 1000000) {G : Nat → Int32} {nP nF nS : Nat} (hW : WFA G nP nF nt) (hWT : WFT G nF nS) (hKW : WFK G nP nF) {rk : Nat → Nat} (hrk : RK G nF rk) (hD : DR tK tF tC tS I R sh nt 0 G nP nF nS) {f : Int32} {key : Int32} {k : Int32} (hd : 80 ≤ d) : Mt mi_X_would d 0 0 [.ref 0, .int f, .int key, .int k] (I, R, L, sh, N) (XP I R L sh N (o_would (AN (TRK tK tF tC tS) G) G nP nF f key k) (fun K _ => FrX sh I K)) := by
  obtain ⟨hPc, hP24, hFc, hF12, hWF, hWP⟩ := id hW
  refine Mt.of pn_X (Nat.le_of_ble_eq_true rfl) ?_
  show Run mi_X_would d 0 0 0 [(0, .ref 0), (1, .int f), (2, .int key), (3, .int k)] [] (I, R, L, sh, N) _
  refine r_aload_n (x := some 0) (pc2 := 1) d_X_would_0 rfl rfl ?_
  refine q_getR (x := some 1) (pc2 := 4) d_X_would_1 rfl k_X_12 rfl (sh_0 hS) (rf_0_0 hR) ?_
  refine q_getR (x := some 2) (pc2 := 7) d_X_would_4 rfl k_X_179 rfl (sh_1 hS) (rf_1_0 hR) ?_
  refine r_iload_n (pc2 := 8) d_X_would_7 rfl rfl ?_
  refine r_i2l (pc2 := 9) d_X_would_8 rfl ?_
  refine q_callv (M2 := mi_Pe_find) (pc2 := 12) d_X_would_9 rfl k_X_183 cm_Pe_find cv_Pe_find (sh_2 hS) (by decide) rfl rfl rfl (Nat.le_of_ble_eq_true rfl) (c_Pe_find (x := key.toInt64) hS hR hV hV2 hnt6 hW hWT hKW hrk hD) (d2 := d - 1) (by omega) (Nat.le_of_eq (Nat.zero_add _)) (Nat.le_of_eq (Nat.zero_add _)) ?_
  refine q_top (y := vo (pB G nP key)) (by rw [fL_i]) ?_
  cases hopkkey : pB G nP key with
  | none =>
    refine r_istore (pc2 := 14) d_X_would_12 rfl (Nat.le_of_ble_eq_true rfl) ?_
    refine r_iload (pc2 := 16) d_X_would_14 rfl rfl ?_
    refine r_iconst (v := (-1 : Int32)) (pc2 := 17) d_X_would_16 rfl (by decide) ?_
    refine q_icmp_eq (tgt := 37) (A := (-1 : Int)) (B := (-1 : Int)) (pc2 := 20) d_X_would_17 rfl rfl (by decide) (by decide) (fun c1 => ?_) (fun c1 => ?_)
    rotate_left
    · exfalso; omega
    refine r_aload_n (x := some 0) (pc2 := 38) d_X_would_37 rfl rfl ?_
    refine r_bipush (v := (-32 : Int32)) (pc2 := 40) d_X_would_38 rfl (by decide) ?_
    refine q_callv (M2 := mi_X_refuse) (pc2 := 43) d_X_would_40 rfl k_X_75 cm_X_refuse cv_X_refuse (sh_0 hS) (by decide) rfl rfl rfl (Nat.le_of_ble_eq_true rfl) (c_X_refuse_0 (J := I) hS hR) (d2 := d - 1) (by omega) (Nat.le_of_eq (Nat.zero_add _)) (Nat.le_of_eq (Nat.zero_add _)) ?_
    obtain ⟨I2, hI2⟩ : ∃ x, x = u2 I 744 0 (I 744 0 + nI 1) := ⟨_, rfl⟩
    rw [← hI2]
    refine Run.ret (some (.int ((-32 : Int32)))) d_X_would_43 ⟨_, rfl⟩ ?_
    exact XP.bad hS 0 (by (unfold o_would); (try dsimp only); (try simp only [Int.toNat_natCast]); (repeat (first | rw [if_pos (by omega)] | rw [if_neg (by omega)] | (rw [hopkkey]; try dsimp only))); (try rfl); (all_goals first | rfl | (congr 2 <;> omega) | ((repeat' split) <;> first | rfl | (exfalso; omega) | (congr 2 <;> omega) | skip))) (by decide) FrXR.rf FrX.rf hI2
  | some pkkey =>
    obtain ⟨hppkkey, hqpkkey, -⟩ := fst1_spec (show fst1 _ _ = some pkkey from hopkkey)
    refine r_istore (pc2 := 14) d_X_would_12 rfl (Nat.le_of_ble_eq_true rfl) ?_
    refine r_iload (pc2 := 16) d_X_would_14 rfl rfl ?_
    refine r_iconst (v := (-1 : Int32)) (pc2 := 17) d_X_would_16 rfl (by decide) ?_
    refine q_icmp_eq (tgt := 37) (A := ((pkkey : Nat) : Int)) (B := (-1 : Int)) (pc2 := 20) d_X_would_17 rfl rfl (nI_toInt (by omega)) (by decide) (fun c3 => ?_) (fun c3 => ?_)
    · exfalso; omega
    refine r_aload_n (x := some 0) (pc2 := 21) d_X_would_20 rfl rfl ?_
    refine r_iload_n (pc2 := 22) d_X_would_21 rfl rfl ?_
    refine q_callv (M2 := mi_X_isFeature) (pc2 := 25) d_X_would_22 rfl k_X_220 cm_X_isFeature cv_X_isFeature (sh_0 hS) (by decide) rfl rfl rfl (Nat.le_of_ble_eq_true rfl) (c_X_isFeature (f := f) hS hR hV hV2 hnt6 hW hWT hKW hrk hD) (d2 := d - 1) (by omega) (Nat.le_of_eq (Nat.zero_add _)) (Nat.le_of_eq (Nat.zero_add _)) ?_
    refine q_bif_eq (tgt := 37) (pc2 := 28) d_X_would_25 rfl rfl (fun c4 => ?_) (fun c4 => ?_)
    · refine r_aload_n (x := some 0) (pc2 := 38) d_X_would_37 rfl rfl ?_
      refine r_bipush (v := (-32 : Int32)) (pc2 := 40) d_X_would_38 rfl (by decide) ?_
      refine q_callv (M2 := mi_X_refuse) (pc2 := 43) d_X_would_40 rfl k_X_75 cm_X_refuse cv_X_refuse (sh_0 hS) (by decide) rfl rfl rfl (Nat.le_of_ble_eq_true rfl) (c_X_refuse_0 (J := I) hS hR) (d2 := d - 1) (by omega) (Nat.le_of_eq (Nat.zero_add _)) (Nat.le_of_eq (Nat.zero_add _)) ?_
      obtain ⟨I5, hI5⟩ : ∃ x, x = u2 I 744 0 (I 744 0 + nI 1) := ⟨_, rfl⟩
      rw [← hI5]
      refine Run.ret (some (.int ((-32 : Int32)))) d_X_would_43 ⟨_, rfl⟩ ?_
      exact XP.bad hS 0 (by (unfold o_would); (try dsimp only); (try simp only [Int.toNat_natCast]); (repeat (first | rw [if_pos (by omega)] | rw [if_neg (by omega)] | (rw [hopkkey]; try dsimp only))); (try rfl); (all_goals first | rfl | (congr 2 <;> omega) | ((repeat' split) <;> first | rfl | (exfalso; omega) | (congr 2 <;> omega) | skip))) (by decide) FrXR.rf FrX.rf hI5
    · obtain ⟨fN, hfN, rfl, efN⟩ := nat_of c4
      obtain ⟨tpfN, klfN, skfN, fbfN, nRfN, nNfN, nOfN, frfN, tofN, ⟨a0fN, b0fN, cc0fN, dd0fN⟩, ⟨a1fN, b1fN, cc1fN, dd1fN⟩, ⟨a2fN, b2fN, cc2fN, dd2fN⟩, ⟨a3fN, b3fN, cc3fN, dd3fN⟩, ⟨a4fN, b4fN, cc4fN, dd4fN⟩, ⟨a5fN, b5fN, cc5fN, dd5fN⟩, ⟨a6fN, b6fN, cc6fN, dd6fN⟩, ⟨a8fN, b8fN, cc8fN, dd8fN⟩, ⟨a9fN, b9fN, cc9fN, dd9fN⟩⟩ := wfn (hWF fN (by omega))
      obtain ⟨-, -, -, -, -, -, -, w7fN, -, -, wNfN, wRfN, wKfN, wOfN⟩ := hWF fN (by omega)
      obtain ⟨⟨x0fN, x1fN, x2fN, x3fN, x4fN, x5fN, x6fN, x7fN, x8fN⟩, xnfN, xofN, xkfN, xcfN, xrfN⟩ := hD.2.2.2.1 fN (by omega)
      refine r_iload_n (pc2 := 29) d_X_would_28 rfl rfl ?_
      refine q_if_lt (tgt := 37) (A := k.toInt) (pc2 := 32) d_X_would_29 rfl rfl (rfl) (fun c6 => ?_) (fun c6 => ?_)
      · refine r_aload_n (x := some 0) (pc2 := 38) d_X_would_37 rfl rfl ?_
        refine r_bipush (v := (-32 : Int32)) (pc2 := 40) d_X_would_38 rfl (by decide) ?_
        refine q_callv (M2 := mi_X_refuse) (pc2 := 43) d_X_would_40 rfl k_X_75 cm_X_refuse cv_X_refuse (sh_0 hS) (by decide) rfl rfl rfl (Nat.le_of_ble_eq_true rfl) (c_X_refuse_0 (J := I) hS hR) (d2 := d - 1) (by omega) (Nat.le_of_eq (Nat.zero_add _)) (Nat.le_of_eq (Nat.zero_add _)) ?_
        obtain ⟨I7, hI7⟩ : ∃ x, x = u2 I 744 0 (I 744 0 + nI 1) := ⟨_, rfl⟩
        rw [← hI7]
        refine Run.ret (some (.int ((-32 : Int32)))) d_X_would_43 ⟨_, rfl⟩ ?_
        exact XP.bad hS 0 (by (try simp only [efN, b0fN, b1fN, b2fN, b3fN, b4fN, b5fN, b6fN, b8fN, b9fN, Int.toNat_natCast] at c4 c6); (unfold o_would); (try dsimp only); (try simp only [efN, b0fN, b1fN, b2fN, b3fN, b4fN, b5fN, b6fN, b8fN, b9fN, Int.toNat_natCast]); (repeat (first | rw [if_pos (by omega)] | rw [if_neg (by omega)] | (rw [hopkkey]; try dsimp only))); (try rfl); (all_goals first | rfl | (simp only [a0fN, a1fN, a2fN, a3fN, a4fN, a5fN, a6fN, a8fN, a9fN]; done) | (congr 2 <;> omega) | ((repeat' split) <;> first | rfl | (simp only [a0fN, a1fN, a2fN, a3fN, a4fN, a5fN, a6fN, a8fN, a9fN]; done) | (exfalso; omega) | (congr 2 <;> omega) | skip))) (by decide) FrXR.rf FrX.rf hI7
      · refine r_iload_n (pc2 := 33) d_X_would_32 rfl rfl ?_
        refine r_iconst (v := nI 3) (pc2 := 34) d_X_would_33 rfl (by decide) ?_
        refine q_icmp_le (tgt := 44) (A := k.toInt) (B := (3 : Int)) (pc2 := 37) d_X_would_34 rfl rfl (rfl) (nI_toInt (by omega)) (fun c8 => ?_) (fun c8 => ?_)
        · refine r_aload_n (x := some 0) (pc2 := 45) d_X_would_44 rfl rfl ?_
          refine r_iload_n (pc2 := 46) d_X_would_45 rfl rfl ?_
          refine r_iload (pc2 := 48) d_X_would_46 rfl rfl ?_
          refine r_callv (M2 := mi_X_answerOne) (pc2 := 51) d_X_would_48 rfl k_X_321 cm_X_answerOne cv_X_answerOne (sh_0 hS) (by decide) rfl rfl rfl (Nat.le_of_ble_eq_true rfl) (c_X_answerOne hS hR hV hV2 hnt6 hW hD hrk (p := pkkey) (by omega) (F := fN) (by omega) FrN.rf (d := d - 1) (by omega)) (d2 := d - 1) (by omega) (Nat.le_of_eq (Nat.zero_add _)) (Nat.le_of_eq (Nat.zero_add _)) (fun r2 h2 hq2 => ?_)
          obtain ⟨K9, rfl, rfl, hK9, hsK9, hnK9, hlK9, hmK9⟩ := hq2
          change Run _ _ _ _ _ _ [.int ((AN (TRK tK tF tC tS) G pkkey fN).1)] _ _
          have hr1_K9 : K9 1 = I 1 := hK9.row (by decide) (by rw [sh_1 hS]; decide)
          have hr2_K9 : K9 2 = I 2 := hK9.row (by decide) (by rw [sh_2 hS]; decide)
          have hr3_K9 : K9 3 = I 3 := hK9.row (by decide) (by rw [sh_3 hS]; show 12 ≠ 14; decide)
          have hr4_K9 : K9 4 = I 4 := hK9.row (by decide) (by rw [sh_4 hS]; show 12 ≠ 14; decide)
          have hvK9 := hsK9.2.2.2 fN hmK9
          have hlnK9 := nodup_len nF _ hnK9 hlK9
          refine r_pop (pc2 := 52) d_X_would_51 rfl rfl ?_
          refine r_iload_n (pc2 := 53) d_X_would_52 rfl rfl ?_
          refine q_switch (tgt := 110) (A := k.toInt) d_X_would_53 rfl (rfl) (fun off t2 c10a c10b c10o c10t => ?_) (by decide) (by decide) (fun c10 => ?_)
          · have c10c : k.toInt = 0 ∨ k.toInt = 1 ∨ k.toInt = 2 := by omega
            rcases c10c with c10e | c10e | c10e
            · obtain rfl : t2 = 80 := by
                have hh : (some (27 : Int)) = some off := by rw [c10e] at c10o; exact c10o
                cases hh; omega
              refine r_aload_n (x := some 0) (pc2 := 81) d_X_would_80 rfl rfl ?_
              refine q_getR (x := some 718) (pc2 := 84) d_X_would_81 rfl k_X_29 rfl (sh_0 hS) (rf_0_4 hR) ?_
              refine q_getR (x := some 719) (pc2 := 87) d_X_would_84 rfl k_X_324 rfl (sh_718 hS) (rf_718_0 hR) ?_
              refine r_iload_n (pc2 := 88) d_X_would_87 rfl rfl ?_
              refine q_iaload (q := fN) (x := (AN (TRK tK tF tC tS) G pkkey fN).1) (pc2 := 89) d_X_would_88 rfl (sh_719 hS) (nI_toInt (by omega)) (by omega) hvK9.1 ?_
              refine Run.ret (some (.int ((AN (TRK tK tF tC tS) G pkkey fN).1))) d_X_would_89 ⟨_, rfl⟩ ?_
              exact XP.val (by (try simp only [efN, b0fN, b1fN, b2fN, b3fN, b4fN, b5fN, b6fN, b8fN, b9fN, Int.toNat_natCast] at c4 c6 c8); (unfold o_would); (try dsimp only); (try simp only [efN, b0fN, b1fN, b2fN, b3fN, b4fN, b5fN, b6fN, b8fN, b9fN, Int.toNat_natCast]); (repeat (first | rw [if_pos (by omega)] | rw [if_neg (by omega)] | (rw [hopkkey]; try dsimp only))); (try rfl); (all_goals first | rfl | (simp only [a0fN, a1fN, a2fN, a3fN, a4fN, a5fN, a6fN, a8fN, a9fN]; done) | (congr 2 <;> omega) | ((repeat' split) <;> first | rfl | (simp only [a0fN, a1fN, a2fN, a3fN, a4fN, a5fN, a6fN, a8fN, a9fN]; done) | (exfalso; omega) | (congr 2 <;> omega) | skip))) FrXR.rf (hK9.x (by decide))
            · obtain rfl : t2 = 90 := by
                have hh : (some (37 : Int)) = some off := by rw [c10e] at c10o; exact c10o
                cases hh; omega
              refine r_aload_n (x := some 0) (pc2 := 91) d_X_would_90 rfl rfl ?_
              refine q_getR (x := some 718) (pc2 := 94) d_X_would_91 rfl k_X_29 rfl (sh_0 hS) (rf_0_4 hR) ?_
              refine q_getR (x := some 720) (pc2 := 97) d_X_would_94 rfl k_X_327 rfl (sh_718 hS) (rf_718_1 hR) ?_
              refine r_iload_n (pc2 := 98) d_X_would_97 rfl rfl ?_
              refine q_iaload (q := fN) (x := (AN (TRK tK tF tC tS) G pkkey fN).2.1) (pc2 := 99) d_X_would_98 rfl (sh_720 hS) (nI_toInt (by omega)) (by omega) hvK9.2.1 ?_
              refine Run.ret (some (.int ((AN (TRK tK tF tC tS) G pkkey fN).2.1))) d_X_would_99 ⟨_, rfl⟩ ?_
              exact XP.val (by (try simp only [efN, b0fN, b1fN, b2fN, b3fN, b4fN, b5fN, b6fN, b8fN, b9fN, Int.toNat_natCast] at c4 c6 c8); (unfold o_would); (try dsimp only); (try simp only [efN, b0fN, b1fN, b2fN, b3fN, b4fN, b5fN, b6fN, b8fN, b9fN, Int.toNat_natCast]); (repeat (first | rw [if_pos (by omega)] | rw [if_neg (by omega)] | (rw [hopkkey]; try dsimp only))); (try rfl); (all_goals first | rfl | (simp only [a0fN, a1fN, a2fN, a3fN, a4fN, a5fN, a6fN, a8fN, a9fN]; done) | (congr 2 <;> omega) | ((repeat' split) <;> first | rfl | (simp only [a0fN, a1fN, a2fN, a3fN, a4fN, a5fN, a6fN, a8fN, a9fN]; done) | (exfalso; omega) | (congr 2 <;> omega) | skip))) FrXR.rf (hK9.x (by decide))
            · obtain rfl : t2 = 100 := by
                have hh : (some (47 : Int)) = some off := by rw [c10e] at c10o; exact c10o
                cases hh; omega
              refine r_aload_n (x := some 0) (pc2 := 101) d_X_would_100 rfl rfl ?_
              refine q_getR (x := some 718) (pc2 := 104) d_X_would_101 rfl k_X_29 rfl (sh_0 hS) (rf_0_4 hR) ?_
              refine q_getR (x := some 721) (pc2 := 107) d_X_would_104 rfl k_X_330 rfl (sh_718 hS) (rf_718_2 hR) ?_
              refine r_iload_n (pc2 := 108) d_X_would_107 rfl rfl ?_
              refine q_iaload (q := fN) (x := (AN (TRK tK tF tC tS) G pkkey fN).2.2) (pc2 := 109) d_X_would_108 rfl (sh_721 hS) (nI_toInt (by omega)) (by omega) hvK9.2.2 ?_
              refine Run.ret (some (.int ((AN (TRK tK tF tC tS) G pkkey fN).2.2))) d_X_would_109 ⟨_, rfl⟩ ?_
              exact XP.val (by (try simp only [efN, b0fN, b1fN, b2fN, b3fN, b4fN, b5fN, b6fN, b8fN, b9fN, Int.toNat_natCast] at c4 c6 c8); (unfold o_would); (try dsimp only); (try simp only [efN, b0fN, b1fN, b2fN, b3fN, b4fN, b5fN, b6fN, b8fN, b9fN, Int.toNat_natCast]); (repeat (first | rw [if_pos (by omega)] | rw [if_neg (by omega)] | (rw [hopkkey]; try dsimp only))); (try rfl); (all_goals first | rfl | (simp only [a0fN, a1fN, a2fN, a3fN, a4fN, a5fN, a6fN, a8fN, a9fN]; done) | (congr 2 <;> omega) | ((repeat' split) <;> first | rfl | (simp only [a0fN, a1fN, a2fN, a3fN, a4fN, a5fN, a6fN, a8fN, a9fN]; done) | (exfalso; omega) | (congr 2 <;> omega) | skip))) FrXR.rf (hK9.x (by decide))
          · refine r_aload_n (x := some 0) (pc2 := 111) d_X_would_110 rfl rfl ?_
            refine q_getR (x := some 718) (pc2 := 114) d_X_would_111 rfl k_X_29 rfl (sh_0 hS) (rf_0_4 hR) ?_
            refine q_getI (x := nI ((pth G (AN (TRK tK tF tC tS) G pkkey) 12 fN []).length)) (pc2 := 117) d_X_would_114 rfl k_X_333 (by decide) (sh_718 hS) hsK9.1 ?_
            refine Run.ret (some (.int (nI ((pth G (AN (TRK tK tF tC tS) G pkkey) 12 fN []).length)))) d_X_would_117 ⟨_, rfl⟩ ?_
            exact XP.val (by (try simp only [efN, b0fN, b1fN, b2fN, b3fN, b4fN, b5fN, b6fN, b8fN, b9fN, Int.toNat_natCast] at c4 c6 c8 c10); (unfold o_would); (try dsimp only); (try simp only [efN, b0fN, b1fN, b2fN, b3fN, b4fN, b5fN, b6fN, b8fN, b9fN, Int.toNat_natCast]); (repeat (first | rw [if_pos (by omega)] | rw [if_neg (by omega)] | (rw [hopkkey]; try dsimp only))); (try rfl); (all_goals first | rfl | (simp only [a0fN, a1fN, a2fN, a3fN, a4fN, a5fN, a6fN, a8fN, a9fN]; done) | (congr 2 <;> omega) | ((repeat' split) <;> first | rfl | (simp only [a0fN, a1fN, a2fN, a3fN, a4fN, a5fN, a6fN, a8fN, a9fN]; done) | (exfalso; omega) | (congr 2 <;> omega) | skip))) FrXR.rf (hK9.x (by decide))
        · refine r_aload_n (x := some 0) (pc2 := 38) d_X_would_37 rfl rfl ?_
          refine r_bipush (v := (-32 : Int32)) (pc2 := 40) d_X_would_38 rfl (by decide) ?_
          refine q_callv (M2 := mi_X_refuse) (pc2 := 43) d_X_would_40 rfl k_X_75 cm_X_refuse cv_X_refuse (sh_0 hS) (by decide) rfl rfl rfl (Nat.le_of_ble_eq_true rfl) (c_X_refuse_0 (J := I) hS hR) (d2 := d - 1) (by omega) (Nat.le_of_eq (Nat.zero_add _)) (Nat.le_of_eq (Nat.zero_add _)) ?_
          obtain ⟨I11, hI11⟩ : ∃ x, x = u2 I 744 0 (I 744 0 + nI 1) := ⟨_, rfl⟩
          rw [← hI11]
          refine Run.ret (some (.int ((-32 : Int32)))) d_X_would_43 ⟨_, rfl⟩ ?_
          exact XP.bad hS 0 (by (try simp only [efN, b0fN, b1fN, b2fN, b3fN, b4fN, b5fN, b6fN, b8fN, b9fN, Int.toNat_natCast] at c4 c6 c8); (unfold o_would); (try dsimp only); (try simp only [efN, b0fN, b1fN, b2fN, b3fN, b4fN, b5fN, b6fN, b8fN, b9fN, Int.toNat_natCast]); (repeat (first | rw [if_pos (by omega)] | rw [if_neg (by omega)] | (rw [hopkkey]; try dsimp only))); (try rfl); (all_goals first | rfl | (simp only [a0fN, a1fN, a2fN, a3fN, a4fN, a5fN, a6fN, a8fN, a9fN]; done) | (congr 2 <;> omega) | ((repeat' split) <;> first | rfl | (simp only [a0fN, a1fN, a2fN, a3fN, a4fN, a5fN, a6fN, a8fN, a9fN]; done) | (exfalso; omega) | (congr 2 <;> omega) | skip))) (by decide) FrXR.rf FrX.rf hI11
theorem c_X_path {d : Nat} {I : Nat → Nat → Int32} {R : Nat → Nat → Option Nat} {L : Nat → Nat → Int64} {sh : Nat → Nat × Nat} {N : Nat} (hS : ShOK sh) (hR : RfOK R) {tK tF tC tS : Nat → Int32} {nt : Nat} (hV : TV tK tF tC nt) (hV2 : TV2 tK tF tC tS nt) (hnt6 : nt ≤ 1000000) {G : Nat → Int32} {nP nF nS : Nat} (hW : WFA G nP nF nt) (hWT : WFT G nF nS) (hKW : WFK G nP nF) {rk : Nat → Nat} (hrk : RK G nF rk) (hD : DR tK tF tC tS I R sh nt 0 G nP nF nS) {f : Int32} {key : Int32} {i : Int32} {k : Int32} (hd : 80 ≤ d) : Mt mi_X_path d 0 0 [.ref 0, .int f, .int key, .int i, .int k] (I, R, L, sh, N) (XP I R L sh N (o_path (AN (TRK tK tF tC tS) G) G nP nF f key i k) (fun K _ => FrX sh I K)) := by
  obtain ⟨hPc, hP24, hFc, hF12, hWF, hWP⟩ := id hW
  refine Mt.of pn_X (Nat.le_of_ble_eq_true rfl) ?_
  show Run mi_X_path d 0 0 0 [(0, .ref 0), (1, .int f), (2, .int key), (3, .int i), (4, .int k)] [] (I, R, L, sh, N) _
  refine r_aload_n (x := some 0) (pc2 := 1) d_X_path_0 rfl rfl ?_
  refine q_getR (x := some 1) (pc2 := 4) d_X_path_1 rfl k_X_12 rfl (sh_0 hS) (rf_0_0 hR) ?_
  refine q_getR (x := some 2) (pc2 := 7) d_X_path_4 rfl k_X_179 rfl (sh_1 hS) (rf_1_0 hR) ?_
  refine r_iload_n (pc2 := 8) d_X_path_7 rfl rfl ?_
  refine r_i2l (pc2 := 9) d_X_path_8 rfl ?_
  refine q_callv (M2 := mi_Pe_find) (pc2 := 12) d_X_path_9 rfl k_X_183 cm_Pe_find cv_Pe_find (sh_2 hS) (by decide) rfl rfl rfl (Nat.le_of_ble_eq_true rfl) (c_Pe_find (x := key.toInt64) hS hR hV hV2 hnt6 hW hWT hKW hrk hD) (d2 := d - 1) (by omega) (Nat.le_of_eq (Nat.zero_add _)) (Nat.le_of_eq (Nat.zero_add _)) ?_
  refine q_top (y := vo (pB G nP key)) (by rw [fL_i]) ?_
  cases hopkkey : pB G nP key with
  | none =>
    refine r_istore (pc2 := 14) d_X_path_12 rfl (Nat.le_of_ble_eq_true rfl) ?_
    refine r_iload (pc2 := 16) d_X_path_14 rfl rfl ?_
    refine r_iconst (v := (-1 : Int32)) (pc2 := 17) d_X_path_16 rfl (by decide) ?_
    refine q_icmp_eq (tgt := 39) (A := (-1 : Int)) (B := (-1 : Int)) (pc2 := 20) d_X_path_17 rfl rfl (by decide) (by decide) (fun c1 => ?_) (fun c1 => ?_)
    rotate_left
    · exfalso; omega
    refine r_aload_n (x := some 0) (pc2 := 40) d_X_path_39 rfl rfl ?_
    refine r_bipush (v := (-32 : Int32)) (pc2 := 42) d_X_path_40 rfl (by decide) ?_
    refine q_callv (M2 := mi_X_refuse) (pc2 := 45) d_X_path_42 rfl k_X_75 cm_X_refuse cv_X_refuse (sh_0 hS) (by decide) rfl rfl rfl (Nat.le_of_ble_eq_true rfl) (c_X_refuse_0 (J := I) hS hR) (d2 := d - 1) (by omega) (Nat.le_of_eq (Nat.zero_add _)) (Nat.le_of_eq (Nat.zero_add _)) ?_
    obtain ⟨I2, hI2⟩ : ∃ x, x = u2 I 744 0 (I 744 0 + nI 1) := ⟨_, rfl⟩
    rw [← hI2]
    refine Run.ret (some (.int ((-32 : Int32)))) d_X_path_45 ⟨_, rfl⟩ ?_
    exact XP.bad hS 0 (by (unfold o_path); (try dsimp only); (try simp only [Int.toNat_natCast]); (repeat (first | rw [if_pos (by omega)] | rw [if_neg (by omega)] | (rw [hopkkey]; try dsimp only))); (try rfl); (all_goals first | rfl | (congr 2 <;> omega) | ((repeat' split) <;> first | rfl | (exfalso; omega) | (congr 2 <;> omega) | skip))) (by decide) FrXR.rf FrX.rf hI2
  | some pkkey =>
    obtain ⟨hppkkey, hqpkkey, -⟩ := fst1_spec (show fst1 _ _ = some pkkey from hopkkey)
    refine r_istore (pc2 := 14) d_X_path_12 rfl (Nat.le_of_ble_eq_true rfl) ?_
    refine r_iload (pc2 := 16) d_X_path_14 rfl rfl ?_
    refine r_iconst (v := (-1 : Int32)) (pc2 := 17) d_X_path_16 rfl (by decide) ?_
    refine q_icmp_eq (tgt := 39) (A := ((pkkey : Nat) : Int)) (B := (-1 : Int)) (pc2 := 20) d_X_path_17 rfl rfl (nI_toInt (by omega)) (by decide) (fun c3 => ?_) (fun c3 => ?_)
    · exfalso; omega
    refine r_aload_n (x := some 0) (pc2 := 21) d_X_path_20 rfl rfl ?_
    refine r_iload_n (pc2 := 22) d_X_path_21 rfl rfl ?_
    refine q_callv (M2 := mi_X_isFeature) (pc2 := 25) d_X_path_22 rfl k_X_220 cm_X_isFeature cv_X_isFeature (sh_0 hS) (by decide) rfl rfl rfl (Nat.le_of_ble_eq_true rfl) (c_X_isFeature (f := f) hS hR hV hV2 hnt6 hW hWT hKW hrk hD) (d2 := d - 1) (by omega) (Nat.le_of_eq (Nat.zero_add _)) (Nat.le_of_eq (Nat.zero_add _)) ?_
    refine q_bif_eq (tgt := 39) (pc2 := 28) d_X_path_25 rfl rfl (fun c4 => ?_) (fun c4 => ?_)
    · refine r_aload_n (x := some 0) (pc2 := 40) d_X_path_39 rfl rfl ?_
      refine r_bipush (v := (-32 : Int32)) (pc2 := 42) d_X_path_40 rfl (by decide) ?_
      refine q_callv (M2 := mi_X_refuse) (pc2 := 45) d_X_path_42 rfl k_X_75 cm_X_refuse cv_X_refuse (sh_0 hS) (by decide) rfl rfl rfl (Nat.le_of_ble_eq_true rfl) (c_X_refuse_0 (J := I) hS hR) (d2 := d - 1) (by omega) (Nat.le_of_eq (Nat.zero_add _)) (Nat.le_of_eq (Nat.zero_add _)) ?_
      obtain ⟨I5, hI5⟩ : ∃ x, x = u2 I 744 0 (I 744 0 + nI 1) := ⟨_, rfl⟩
      rw [← hI5]
      refine Run.ret (some (.int ((-32 : Int32)))) d_X_path_45 ⟨_, rfl⟩ ?_
      exact XP.bad hS 0 (by (unfold o_path); (try dsimp only); (try simp only [Int.toNat_natCast]); (repeat (first | rw [if_pos (by omega)] | rw [if_neg (by omega)] | (rw [hopkkey]; try dsimp only))); (try rfl); (all_goals first | rfl | (congr 2 <;> omega) | ((repeat' split) <;> first | rfl | (exfalso; omega) | (congr 2 <;> omega) | skip))) (by decide) FrXR.rf FrX.rf hI5
    · obtain ⟨fN, hfN, rfl, efN⟩ := nat_of c4
      obtain ⟨tpfN, klfN, skfN, fbfN, nRfN, nNfN, nOfN, frfN, tofN, ⟨a0fN, b0fN, cc0fN, dd0fN⟩, ⟨a1fN, b1fN, cc1fN, dd1fN⟩, ⟨a2fN, b2fN, cc2fN, dd2fN⟩, ⟨a3fN, b3fN, cc3fN, dd3fN⟩, ⟨a4fN, b4fN, cc4fN, dd4fN⟩, ⟨a5fN, b5fN, cc5fN, dd5fN⟩, ⟨a6fN, b6fN, cc6fN, dd6fN⟩, ⟨a8fN, b8fN, cc8fN, dd8fN⟩, ⟨a9fN, b9fN, cc9fN, dd9fN⟩⟩ := wfn (hWF fN (by omega))
      obtain ⟨-, -, -, -, -, -, -, w7fN, -, -, wNfN, wRfN, wKfN, wOfN⟩ := hWF fN (by omega)
      obtain ⟨⟨x0fN, x1fN, x2fN, x3fN, x4fN, x5fN, x6fN, x7fN, x8fN⟩, xnfN, xofN, xkfN, xcfN, xrfN⟩ := hD.2.2.2.1 fN (by omega)
      refine r_iload (pc2 := 30) d_X_path_28 rfl rfl ?_
      refine q_if_lt (tgt := 39) (A := k.toInt) (pc2 := 33) d_X_path_30 rfl rfl (rfl) (fun c6 => ?_) (fun c6 => ?_)
      · refine r_aload_n (x := some 0) (pc2 := 40) d_X_path_39 rfl rfl ?_
        refine r_bipush (v := (-32 : Int32)) (pc2 := 42) d_X_path_40 rfl (by decide) ?_
        refine q_callv (M2 := mi_X_refuse) (pc2 := 45) d_X_path_42 rfl k_X_75 cm_X_refuse cv_X_refuse (sh_0 hS) (by decide) rfl rfl rfl (Nat.le_of_ble_eq_true rfl) (c_X_refuse_0 (J := I) hS hR) (d2 := d - 1) (by omega) (Nat.le_of_eq (Nat.zero_add _)) (Nat.le_of_eq (Nat.zero_add _)) ?_
        obtain ⟨I7, hI7⟩ : ∃ x, x = u2 I 744 0 (I 744 0 + nI 1) := ⟨_, rfl⟩
        rw [← hI7]
        refine Run.ret (some (.int ((-32 : Int32)))) d_X_path_45 ⟨_, rfl⟩ ?_
        exact XP.bad hS 0 (by (try simp only [efN, b0fN, b1fN, b2fN, b3fN, b4fN, b5fN, b6fN, b8fN, b9fN, Int.toNat_natCast] at c4 c6); (unfold o_path); (try dsimp only); (try simp only [efN, b0fN, b1fN, b2fN, b3fN, b4fN, b5fN, b6fN, b8fN, b9fN, Int.toNat_natCast]); (repeat (first | rw [if_pos (by omega)] | rw [if_neg (by omega)] | (rw [hopkkey]; try dsimp only))); (try rfl); (all_goals first | rfl | (simp only [a0fN, a1fN, a2fN, a3fN, a4fN, a5fN, a6fN, a8fN, a9fN]; done) | (congr 2 <;> omega) | ((repeat' split) <;> first | rfl | (simp only [a0fN, a1fN, a2fN, a3fN, a4fN, a5fN, a6fN, a8fN, a9fN]; done) | (exfalso; omega) | (congr 2 <;> omega) | skip))) (by decide) FrXR.rf FrX.rf hI7
      · refine r_iload (pc2 := 35) d_X_path_33 rfl rfl ?_
        refine r_iconst (v := nI 3) (pc2 := 36) d_X_path_35 rfl (by decide) ?_
        refine q_icmp_le (tgt := 46) (A := k.toInt) (B := (3 : Int)) (pc2 := 39) d_X_path_36 rfl rfl (rfl) (nI_toInt (by omega)) (fun c8 => ?_) (fun c8 => ?_)
        · refine r_aload_n (x := some 0) (pc2 := 47) d_X_path_46 rfl rfl ?_
          refine r_iload_n (pc2 := 48) d_X_path_47 rfl rfl ?_
          refine r_iload (pc2 := 50) d_X_path_48 rfl rfl ?_
          refine r_callv (M2 := mi_X_answerOne) (pc2 := 53) d_X_path_50 rfl k_X_321 cm_X_answerOne cv_X_answerOne (sh_0 hS) (by decide) rfl rfl rfl (Nat.le_of_ble_eq_true rfl) (c_X_answerOne hS hR hV hV2 hnt6 hW hD hrk (p := pkkey) (by omega) (F := fN) (by omega) FrN.rf (d := d - 1) (by omega)) (d2 := d - 1) (by omega) (Nat.le_of_eq (Nat.zero_add _)) (Nat.le_of_eq (Nat.zero_add _)) (fun r2 h2 hq2 => ?_)
          obtain ⟨K9, rfl, rfl, hK9, hsK9, hnK9, hlK9, hmK9⟩ := hq2
          change Run _ _ _ _ _ _ [.int ((AN (TRK tK tF tC tS) G pkkey fN).1)] _ _
          have hr1_K9 : K9 1 = I 1 := hK9.row (by decide) (by rw [sh_1 hS]; decide)
          have hr2_K9 : K9 2 = I 2 := hK9.row (by decide) (by rw [sh_2 hS]; decide)
          have hr3_K9 : K9 3 = I 3 := hK9.row (by decide) (by rw [sh_3 hS]; show 12 ≠ 14; decide)
          have hr4_K9 : K9 4 = I 4 := hK9.row (by decide) (by rw [sh_4 hS]; show 12 ≠ 14; decide)
          have hvK9 := hsK9.2.2.2 fN hmK9
          have hlnK9 := nodup_len nF _ hnK9 hlK9
          refine r_pop (pc2 := 54) d_X_path_53 rfl rfl ?_
          refine r_iload_n (pc2 := 55) d_X_path_54 rfl rfl ?_
          refine q_if_lt (tgt := 69) (A := i.toInt) (pc2 := 58) d_X_path_55 rfl rfl (rfl) (fun c10 => ?_) (fun c10 => ?_)
          · refine r_aload_n (x := some 0) (pc2 := 70) d_X_path_69 rfl rfl ?_
            refine r_bipush (v := (-32 : Int32)) (pc2 := 72) d_X_path_70 rfl (by decide) ?_
            refine q_callv (M2 := mi_X_refuse) (pc2 := 75) d_X_path_72 rfl k_X_75 cm_X_refuse cv_X_refuse (sh_0 hS) (by decide) rfl rfl rfl (Nat.le_of_ble_eq_true rfl) (c_X_refuse_0 (J := K9) hS hR) (d2 := d - 1) (by omega) (Nat.le_of_eq (Nat.zero_add _)) (Nat.le_of_eq (Nat.zero_add _)) ?_
            obtain ⟨I11, hI11⟩ : ∃ x, x = u2 K9 744 0 (K9 744 0 + nI 1) := ⟨_, rfl⟩
            rw [← hI11]
            refine Run.ret (some (.int ((-32 : Int32)))) d_X_path_75 ⟨_, rfl⟩ ?_
            exact XP.bad hS 0 (by (try simp only [efN, b0fN, b1fN, b2fN, b3fN, b4fN, b5fN, b6fN, b8fN, b9fN, Int.toNat_natCast] at c4 c6 c8 c10); (unfold o_path); (try dsimp only); (try simp only [efN, b0fN, b1fN, b2fN, b3fN, b4fN, b5fN, b6fN, b8fN, b9fN, Int.toNat_natCast]); (repeat (first | rw [if_pos (by omega)] | rw [if_neg (by omega)] | (rw [hopkkey]; try dsimp only))); (try rfl); (all_goals first | rfl | (simp only [a0fN, a1fN, a2fN, a3fN, a4fN, a5fN, a6fN, a8fN, a9fN]; done) | (congr 2 <;> omega) | ((repeat' split) <;> first | rfl | (simp only [a0fN, a1fN, a2fN, a3fN, a4fN, a5fN, a6fN, a8fN, a9fN]; done) | (exfalso; omega) | (congr 2 <;> omega) | skip))) (by decide) FrXR.rf (hK9.x (by decide)) hI11
          · refine r_iload_n (pc2 := 59) d_X_path_58 rfl rfl ?_
            refine r_aload_n (x := some 0) (pc2 := 60) d_X_path_59 rfl rfl ?_
            refine q_getR (x := some 718) (pc2 := 63) d_X_path_60 rfl k_X_29 rfl (sh_0 hS) (rf_0_4 hR) ?_
            refine q_getI (x := nI ((pth G (AN (TRK tK tF tC tS) G pkkey) 12 fN []).length)) (pc2 := 66) d_X_path_63 rfl k_X_333 (by decide) (sh_718 hS) hsK9.1 ?_
            refine q_icmp_lt (tgt := 76) (A := i.toInt) (B := (((pth G (AN (TRK tK tF tC tS) G pkkey) 12 fN []).length : Nat) : Int)) (pc2 := 69) d_X_path_66 rfl rfl (rfl) (nI_toInt (by omega)) (fun c12 => ?_) (fun c12 => ?_)
            · obtain ⟨l, hl⟩ : ∃ l, l = pth G (AN (TRK tK tF tC tS) G pkkey) 12 fN [] := ⟨_, rfl⟩
              rw [← hl] at hsK9 hnK9 hlK9 hmK9
              obtain ⟨iN, hiN, rfl, eiN⟩ := nat_of (n := l.length) (show 0 ≤ i.toInt ∧ i.toInt < (l.length : Int) by rw [hl]; omega)
              have hxl : l.getD iN 0 ∈ l := mem_getD.mpr ⟨iN, hiN, rfl⟩
              have hxF := hlK9 _ hxl
              have hxm := hsK9.2.2.2 _ hxl
              have hwx := hsK9.2.2.1 iN hiN
              have hln := nodup_len nF l hnK9 hlK9
              obtain ⟨x, hx⟩ : ∃ x, x = l.getD iN 0 := ⟨_, rfl⟩
              rw [← hx] at hxl hxF hxm hwx
              have hlt2 : iN < l.length := hiN
              refine r_aload_n (x := some 0) (pc2 := 77) d_X_path_76 rfl rfl ?_
              refine q_getR (x := some 718) (pc2 := 80) d_X_path_77 rfl k_X_29 rfl (sh_0 hS) (rf_0_4 hR) ?_
              refine q_getR (x := some 722) (pc2 := 83) d_X_path_80 rfl k_X_336 rfl (sh_718 hS) (rf_718_3 hR) ?_
              refine r_iload_n (pc2 := 84) d_X_path_83 rfl rfl ?_
              refine q_iaload (q := iN) (x := nI x) (pc2 := 85) d_X_path_84 rfl (sh_722 hS) (nI_toInt (by omega)) (by omega) hwx ?_
              refine r_istore (pc2 := 87) d_X_path_85 rfl (Nat.le_of_ble_eq_true rfl) ?_
              refine r_iload (pc2 := 89) d_X_path_87 rfl rfl ?_
              refine q_switch (tgt := 141) (A := k.toInt) d_X_path_89 rfl (rfl) (fun off t2 c13a c13b c13o c13t => ?_) (by decide) (by decide) (fun c13 => ?_)
              · have c13c : k.toInt = 0 ∨ k.toInt = 1 ∨ k.toInt = 2 := by omega
                rcases c13c with c13e | c13e | c13e
                · obtain rfl : t2 = 116 := by
                    have hh : (some (27 : Int)) = some off := by rw [c13e] at c13o; exact c13o
                    cases hh; omega
                  refine r_iload (pc2 := 118) d_X_path_116 rfl rfl ?_
                  refine Run.ret (some (.int (nI x))) d_X_path_118 ⟨_, rfl⟩ ?_
                  exact XP.val (by (try simp only [efN, b0fN, b1fN, b2fN, b3fN, b4fN, b5fN, b6fN, b8fN, b9fN, eiN, Int.toNat_natCast] at c4 c6 c8 c10 c12); (unfold o_path); (try dsimp only); (try simp only [efN, b0fN, b1fN, b2fN, b3fN, b4fN, b5fN, b6fN, b8fN, b9fN, eiN, Int.toNat_natCast]); (repeat (first | rw [if_pos (by omega)] | rw [if_neg (by omega)] | (rw [hopkkey]; try dsimp only) | (rw [← hl]; try dsimp only) | (rw [← hx]; try dsimp only))); (try rfl); (all_goals first | rfl | (simp only [a0fN, a1fN, a2fN, a3fN, a4fN, a5fN, a6fN, a8fN, a9fN]; done) | (congr 2 <;> omega) | ((repeat' split) <;> first | rfl | (simp only [a0fN, a1fN, a2fN, a3fN, a4fN, a5fN, a6fN, a8fN, a9fN]; done) | (exfalso; omega) | (congr 2 <;> omega) | skip))) FrXR.rf (hK9.x (by decide))
                · obtain rfl : t2 = 119 := by
                    have hh : (some (30 : Int)) = some off := by rw [c13e] at c13o; exact c13o
                    cases hh; omega
                  refine r_aload_n (x := some 0) (pc2 := 120) d_X_path_119 rfl rfl ?_
                  refine q_getR (x := some 718) (pc2 := 123) d_X_path_120 rfl k_X_29 rfl (sh_0 hS) (rf_0_4 hR) ?_
                  refine q_getR (x := some 720) (pc2 := 126) d_X_path_123 rfl k_X_327 rfl (sh_718 hS) (rf_718_1 hR) ?_
                  refine r_iload (pc2 := 128) d_X_path_126 rfl rfl ?_
                  refine q_iaload (q := x) (x := (AN (TRK tK tF tC tS) G pkkey x).2.1) (pc2 := 129) d_X_path_128 rfl (sh_720 hS) (nI_toInt (by omega)) (by omega) hxm.2.1 ?_
                  refine Run.ret (some (.int ((AN (TRK tK tF tC tS) G pkkey x).2.1))) d_X_path_129 ⟨_, rfl⟩ ?_
                  exact XP.val (by (try simp only [efN, b0fN, b1fN, b2fN, b3fN, b4fN, b5fN, b6fN, b8fN, b9fN, eiN, Int.toNat_natCast] at c4 c6 c8 c10 c12); (unfold o_path); (try dsimp only); (try simp only [efN, b0fN, b1fN, b2fN, b3fN, b4fN, b5fN, b6fN, b8fN, b9fN, eiN, Int.toNat_natCast]); (repeat (first | rw [if_pos (by omega)] | rw [if_neg (by omega)] | (rw [hopkkey]; try dsimp only) | (rw [← hl]; try dsimp only) | (rw [← hx]; try dsimp only))); (try rfl); (all_goals first | rfl | (simp only [a0fN, a1fN, a2fN, a3fN, a4fN, a5fN, a6fN, a8fN, a9fN]; done) | (congr 2 <;> omega) | ((repeat' split) <;> first | rfl | (simp only [a0fN, a1fN, a2fN, a3fN, a4fN, a5fN, a6fN, a8fN, a9fN]; done) | (exfalso; omega) | (congr 2 <;> omega) | skip))) FrXR.rf (hK9.x (by decide))
                · obtain rfl : t2 = 130 := by
                    have hh : (some (41 : Int)) = some off := by rw [c13e] at c13o; exact c13o
                    cases hh; omega
                  refine r_aload_n (x := some 0) (pc2 := 131) d_X_path_130 rfl rfl ?_
                  refine q_getR (x := some 718) (pc2 := 134) d_X_path_131 rfl k_X_29 rfl (sh_0 hS) (rf_0_4 hR) ?_
                  refine q_getR (x := some 721) (pc2 := 137) d_X_path_134 rfl k_X_330 rfl (sh_718 hS) (rf_718_2 hR) ?_
                  refine r_iload (pc2 := 139) d_X_path_137 rfl rfl ?_
                  refine q_iaload (q := x) (x := (AN (TRK tK tF tC tS) G pkkey x).2.2) (pc2 := 140) d_X_path_139 rfl (sh_721 hS) (nI_toInt (by omega)) (by omega) hxm.2.2 ?_
                  refine Run.ret (some (.int ((AN (TRK tK tF tC tS) G pkkey x).2.2))) d_X_path_140 ⟨_, rfl⟩ ?_
                  exact XP.val (by (try simp only [efN, b0fN, b1fN, b2fN, b3fN, b4fN, b5fN, b6fN, b8fN, b9fN, eiN, Int.toNat_natCast] at c4 c6 c8 c10 c12); (unfold o_path); (try dsimp only); (try simp only [efN, b0fN, b1fN, b2fN, b3fN, b4fN, b5fN, b6fN, b8fN, b9fN, eiN, Int.toNat_natCast]); (repeat (first | rw [if_pos (by omega)] | rw [if_neg (by omega)] | (rw [hopkkey]; try dsimp only) | (rw [← hl]; try dsimp only) | (rw [← hx]; try dsimp only))); (try rfl); (all_goals first | rfl | (simp only [a0fN, a1fN, a2fN, a3fN, a4fN, a5fN, a6fN, a8fN, a9fN]; done) | (congr 2 <;> omega) | ((repeat' split) <;> first | rfl | (simp only [a0fN, a1fN, a2fN, a3fN, a4fN, a5fN, a6fN, a8fN, a9fN]; done) | (exfalso; omega) | (congr 2 <;> omega) | skip))) FrXR.rf (hK9.x (by decide))
              · refine r_aload_n (x := some 0) (pc2 := 142) d_X_path_141 rfl rfl ?_
                refine q_getR (x := some 718) (pc2 := 145) d_X_path_142 rfl k_X_29 rfl (sh_0 hS) (rf_0_4 hR) ?_
                refine q_getR (x := some 719) (pc2 := 148) d_X_path_145 rfl k_X_324 rfl (sh_718 hS) (rf_718_0 hR) ?_
                refine r_iload (pc2 := 150) d_X_path_148 rfl rfl ?_
                refine q_iaload (q := x) (x := (AN (TRK tK tF tC tS) G pkkey x).1) (pc2 := 151) d_X_path_150 rfl (sh_719 hS) (nI_toInt (by omega)) (by omega) hxm.1 ?_
                refine Run.ret (some (.int ((AN (TRK tK tF tC tS) G pkkey x).1))) d_X_path_151 ⟨_, rfl⟩ ?_
                exact XP.val (by (try simp only [efN, b0fN, b1fN, b2fN, b3fN, b4fN, b5fN, b6fN, b8fN, b9fN, eiN, Int.toNat_natCast] at c4 c6 c8 c10 c12 c13); (unfold o_path); (try dsimp only); (try simp only [efN, b0fN, b1fN, b2fN, b3fN, b4fN, b5fN, b6fN, b8fN, b9fN, eiN, Int.toNat_natCast]); (repeat (first | rw [if_pos (by omega)] | rw [if_neg (by omega)] | (rw [hopkkey]; try dsimp only) | (rw [← hl]; try dsimp only) | (rw [← hx]; try dsimp only))); (try rfl); (all_goals first | rfl | (simp only [a0fN, a1fN, a2fN, a3fN, a4fN, a5fN, a6fN, a8fN, a9fN]; done) | (congr 2 <;> omega) | ((repeat' split) <;> first | rfl | (simp only [a0fN, a1fN, a2fN, a3fN, a4fN, a5fN, a6fN, a8fN, a9fN]; done) | (exfalso; omega) | (congr 2 <;> omega) | skip))) FrXR.rf (hK9.x (by decide))
            · refine r_aload_n (x := some 0) (pc2 := 70) d_X_path_69 rfl rfl ?_
              refine r_bipush (v := (-32 : Int32)) (pc2 := 72) d_X_path_70 rfl (by decide) ?_
              refine q_callv (M2 := mi_X_refuse) (pc2 := 75) d_X_path_72 rfl k_X_75 cm_X_refuse cv_X_refuse (sh_0 hS) (by decide) rfl rfl rfl (Nat.le_of_ble_eq_true rfl) (c_X_refuse_0 (J := K9) hS hR) (d2 := d - 1) (by omega) (Nat.le_of_eq (Nat.zero_add _)) (Nat.le_of_eq (Nat.zero_add _)) ?_
              obtain ⟨I14, hI14⟩ : ∃ x, x = u2 K9 744 0 (K9 744 0 + nI 1) := ⟨_, rfl⟩
              rw [← hI14]
              refine Run.ret (some (.int ((-32 : Int32)))) d_X_path_75 ⟨_, rfl⟩ ?_
              exact XP.bad hS 0 (by (try simp only [efN, b0fN, b1fN, b2fN, b3fN, b4fN, b5fN, b6fN, b8fN, b9fN, Int.toNat_natCast] at c4 c6 c8 c10 c12); (unfold o_path); (try dsimp only); (try simp only [efN, b0fN, b1fN, b2fN, b3fN, b4fN, b5fN, b6fN, b8fN, b9fN, Int.toNat_natCast]); (repeat (first | rw [if_pos (by omega)] | rw [if_neg (by omega)] | (rw [hopkkey]; try dsimp only))); (try rfl); (all_goals first | rfl | (simp only [a0fN, a1fN, a2fN, a3fN, a4fN, a5fN, a6fN, a8fN, a9fN]; done) | (congr 2 <;> omega) | ((repeat' split) <;> first | rfl | (simp only [a0fN, a1fN, a2fN, a3fN, a4fN, a5fN, a6fN, a8fN, a9fN]; done) | (exfalso; omega) | (congr 2 <;> omega) | skip))) (by decide) FrXR.rf (hK9.x (by decide)) hI14
        · refine r_aload_n (x := some 0) (pc2 := 40) d_X_path_39 rfl rfl ?_
          refine r_bipush (v := (-32 : Int32)) (pc2 := 42) d_X_path_40 rfl (by decide) ?_
          refine q_callv (M2 := mi_X_refuse) (pc2 := 45) d_X_path_42 rfl k_X_75 cm_X_refuse cv_X_refuse (sh_0 hS) (by decide) rfl rfl rfl (Nat.le_of_ble_eq_true rfl) (c_X_refuse_0 (J := I) hS hR) (d2 := d - 1) (by omega) (Nat.le_of_eq (Nat.zero_add _)) (Nat.le_of_eq (Nat.zero_add _)) ?_
          obtain ⟨I15, hI15⟩ : ∃ x, x = u2 I 744 0 (I 744 0 + nI 1) := ⟨_, rfl⟩
          rw [← hI15]
          refine Run.ret (some (.int ((-32 : Int32)))) d_X_path_45 ⟨_, rfl⟩ ?_
          exact XP.bad hS 0 (by (try simp only [efN, b0fN, b1fN, b2fN, b3fN, b4fN, b5fN, b6fN, b8fN, b9fN, Int.toNat_natCast] at c4 c6 c8); (unfold o_path); (try dsimp only); (try simp only [efN, b0fN, b1fN, b2fN, b3fN, b4fN, b5fN, b6fN, b8fN, b9fN, Int.toNat_natCast]); (repeat (first | rw [if_pos (by omega)] | rw [if_neg (by omega)] | (rw [hopkkey]; try dsimp only))); (try rfl); (all_goals first | rfl | (simp only [a0fN, a1fN, a2fN, a3fN, a4fN, a5fN, a6fN, a8fN, a9fN]; done) | (congr 2 <;> omega) | ((repeat' split) <;> first | rfl | (simp only [a0fN, a1fN, a2fN, a3fN, a4fN, a5fN, a6fN, a8fN, a9fN]; done) | (exfalso; omega) | (congr 2 <;> omega) | skip))) (by decide) FrXR.rf FrX.rf hI15
theorem l_X_reach {d : Nat} {I : Nat → Nat → Int32} {R : Nat → Nat → Option Nat} {L : Nat → Nat → Int64} {sh : Nat → Nat × Nat} {N : Nat} (hS : ShOK sh) (hR : RfOK R) {tK tF tC tS : Nat → Int32} {nt : Nat} (hV : TV tK tF tC nt) (hV2 : TV2 tK tF tC tS nt) (hnt6 : nt ≤ 1000000) {G : Nat → Int32} {nP nF nS : Nat} (hW : WFA G nP nF nt) (hWT : WFT G nF nS) (hKW : WFK G nP nF) {rk : Nat → Nat} (hrk : RK G nF rk) (hD : DR tK tF tC tS I R sh nt 0 G nP nF nS) {F : Nat} (hF : F < nF) {v : Int32} {P : Nat → Bool} (hP : ∀ p, P p = decide ((AN (TRK tK tF tC tS) G p F).1 = v)) {Q : Option Value → HS → Prop} (hq : ∀ K, FrN sh 718 I K → Q (some (.int (nI (cnt P nP)))) (K, R, L, sh, N)) (hd : 60 ≤ d) : ∀ (n_ : Nat) (i : Nat) (J : Nat → Nat → Int32), nP - i = n_ → (FrN sh 718 I J) → (i ≤ nP) → Run mi_X_reach d 0 0 21 [(0, .ref 0), (1, .int (nI F)), (2, .int v), (3, .int (nI (cnt P i))), (4, .int (nI i))] [] (J, R, L, sh, N) Q := by
  intro n_
  induction n_ using Nat.strongRecOn with | ind n_ ih_ => ?_
  intro i J hn_ v0_ v1_
  obtain ⟨hPc, hP24, hFc, hF12, hWF, hWP⟩ := id hW
  have hr1 : J 1 = I 1 := v0_.row (by decide) (by rw [sh_1 hS]; decide)
  have hr2 : J 2 = I 2 := v0_.row (by decide) (by rw [sh_2 hS]; decide)
  have hr3 : J 3 = I 3 := v0_.row (by decide) (by rw [sh_3 hS]; show 12 ≠ 14; decide)
  have hr4 : J 4 = I 4 := v0_.row (by decide) (by rw [sh_4 hS]; show 12 ≠ 14; decide)
  refine r_iload (pc2 := 23) d_X_reach_21 rfl rfl ?_
  refine r_aload_n (x := some 0) (pc2 := 24) d_X_reach_23 rfl rfl ?_
  refine q_getR (x := some 1) (pc2 := 27) d_X_reach_24 rfl k_X_12 rfl (sh_0 hS) (rf_0_0 hR) ?_
  refine q_getR (x := some 2) (pc2 := 30) d_X_reach_27 rfl k_X_179 rfl (sh_1 hS) (rf_1_0 hR) ?_
  refine q_getI (x := nI nP) (pc2 := 33) d_X_reach_30 rfl k_X_189 (by decide) (sh_2 hS) ((congrFun hr2 _).trans (hD.1.1)) ?_
  refine q_icmp_ge (tgt := 56) (A := ((i : Nat) : Int)) (B := ((nP : Nat) : Int)) (pc2 := 36) d_X_reach_33 rfl rfl (nI_toInt (by omega)) (nI_toInt (by omega)) (fun c1 => ?_) (fun c1 => ?_)
  · refine r_iload_n (pc2 := 57) d_X_reach_56 rfl rfl ?_
    refine Run.ret (some (.int (nI (cnt P i)))) d_X_reach_57 ⟨_, rfl⟩ ?_
    rw [show i = nP by omega]; exact hq J v0_
  · refine r_aload_n (x := some 0) (pc2 := 37) d_X_reach_36 rfl rfl ?_
    refine r_iload_n (pc2 := 38) d_X_reach_37 rfl rfl ?_
    refine r_iload (pc2 := 40) d_X_reach_38 rfl rfl ?_
    refine r_callv (M2 := mi_X_answerOne) (pc2 := 43) d_X_reach_40 rfl k_X_321 cm_X_answerOne cv_X_answerOne (sh_0 hS) (by decide) rfl rfl rfl (Nat.le_of_ble_eq_true rfl) (c_X_answerOne hS hR hV hV2 hnt6 hW hD hrk (p := i) (by omega) (F := F) (by omega) v0_ (d := d - 1) (by omega)) (d2 := d - 1) (by omega) (Nat.le_of_eq (Nat.zero_add _)) (Nat.le_of_eq (Nat.zero_add _)) (fun r2 h2 hq2 => ?_)
    obtain ⟨K2, rfl, rfl, hK2, hsK2, hnK2, hlK2, hmK2⟩ := hq2
    change Run _ _ _ _ _ _ [.int ((AN (TRK tK tF tC tS) G i F).1)] _ _
    have hr1_K2 : K2 1 = I 1 := hK2.row (by decide) (by rw [sh_1 hS]; decide)
    have hr2_K2 : K2 2 = I 2 := hK2.row (by decide) (by rw [sh_2 hS]; decide)
    have hr3_K2 : K2 3 = I 3 := hK2.row (by decide) (by rw [sh_3 hS]; show 12 ≠ 14; decide)
    have hr4_K2 : K2 4 = I 4 := hK2.row (by decide) (by rw [sh_4 hS]; show 12 ≠ 14; decide)
    have hvK2 := hsK2.2.2.2 F hmK2
    have hlnK2 := nodup_len nF _ hnK2 hlK2
    refine r_iload_n (pc2 := 44) d_X_reach_43 rfl rfl ?_
    refine q_icmp_ne (tgt := 50) (A := ((AN (TRK tK tF tC tS) G i F).1).toInt) (B := v.toInt) (pc2 := 47) d_X_reach_44 rfl rfl (rfl) (rfl) (fun c3 => ?_) (fun c3 => ?_)
    · refine q_iinc (b := 1) (pc2 := 53) d_X_reach_50 rfl rfl (by decide) (Nat.le_of_ble_eq_true rfl) ?_
      refine r_goto (tgt := 21) d_X_reach_53 rfl ?_
      rw [show nI (cnt P i) = nI (cnt P (i + 1)) from by rw [cnt_s, if_neg (by rw [hP]; simp only [decide_eq_true_eq]; exact fun q => c3 (congrArg Int32.toInt q))]; rfl]
      refine Run.sub (l2 := [(0, .ref 0), (1, .int (nI F)), (2, .int v), (3, .int (nI (cnt P (i + 1)))), (4, .int (nI (i + 1)))]) ⟨rfl, rfl, rfl, rfl, rfl, trivial⟩ ?_
      exact ih_ (nP - (i + 1)) (by omega) (i + 1) K2 rfl (hK2) (by omega)
    · refine q_iinc (b := 1) (pc2 := 50) d_X_reach_47 rfl rfl (by decide) (Nat.le_of_ble_eq_true rfl) ?_
      refine q_iinc (b := 1) (pc2 := 53) d_X_reach_50 rfl rfl (by decide) (Nat.le_of_ble_eq_true rfl) ?_
      refine r_goto (tgt := 21) d_X_reach_53 rfl ?_
      rw [show nI (cnt P i + 1) = nI (cnt P (i + 1)) from by rw [cnt_s, if_pos (by rw [hP]; exact decide_eq_true (Int32.toInt_inj.mp c3))]]
      refine Run.sub (l2 := [(0, .ref 0), (1, .int (nI F)), (2, .int v), (3, .int (nI (cnt P (i + 1)))), (4, .int (nI (i + 1)))]) ⟨rfl, rfl, rfl, rfl, rfl, trivial⟩ ?_
      exact ih_ (nP - (i + 1)) (by omega) (i + 1) K2 rfl (hK2) (by omega)
theorem l_X_by {d : Nat} {I : Nat → Nat → Int32} {R : Nat → Nat → Option Nat} {L : Nat → Nat → Int64} {sh : Nat → Nat × Nat} {N : Nat} (hS : ShOK sh) (hR : RfOK R) {tK tF tC tS : Nat → Int32} {nt : Nat} (hV : TV tK tF tC nt) (hV2 : TV2 tK tF tC tS nt) (hnt6 : nt ≤ 1000000) {G : Nat → Int32} {nP nF nS : Nat} (hW : WFA G nP nF nt) (hWT : WFT G nF nS) (hKW : WFK G nP nF) {rk : Nat → Nat} (hrk : RK G nF rk) (hD : DR tK tF tC tS I R sh nt 0 G nP nF nS) {F : Nat} (hF : F < nF) {v : Int32} {P : Nat → Bool} (hP : ∀ p, P p = decide ((AN (TRK tK tF tC tS) G p F).2.1 = v)) {Q : Option Value → HS → Prop} (hq : ∀ K, FrN sh 718 I K → Q (some (.int (bits P nP))) (K, R, L, sh, N)) (hd : 60 ≤ d) : ∀ (n_ : Nat) (i : Nat) (J : Nat → Nat → Int32), nP - i = n_ → (FrN sh 718 I J) → (i ≤ nP) → Run mi_X_by d 0 0 31 [(0, .ref 0), (1, .int (nI F)), (2, .int v), (3, .int (bits P i)), (4, .int (nI i))] [] (J, R, L, sh, N) Q := by
  intro n_
  induction n_ using Nat.strongRecOn with | ind n_ ih_ => ?_
  intro i J hn_ v0_ v1_
  obtain ⟨hPc, hP24, hFc, hF12, hWF, hWP⟩ := id hW
  have hr1 : J 1 = I 1 := v0_.row (by decide) (by rw [sh_1 hS]; decide)
  have hr2 : J 2 = I 2 := v0_.row (by decide) (by rw [sh_2 hS]; decide)
  have hr3 : J 3 = I 3 := v0_.row (by decide) (by rw [sh_3 hS]; show 12 ≠ 14; decide)
  have hr4 : J 4 = I 4 := v0_.row (by decide) (by rw [sh_4 hS]; show 12 ≠ 14; decide)
  refine r_iload (pc2 := 33) d_X_by_31 rfl rfl ?_
  refine r_aload_n (x := some 0) (pc2 := 34) d_X_by_33 rfl rfl ?_
  refine q_getR (x := some 1) (pc2 := 37) d_X_by_34 rfl k_X_12 rfl (sh_0 hS) (rf_0_0 hR) ?_
  refine q_getR (x := some 2) (pc2 := 40) d_X_by_37 rfl k_X_179 rfl (sh_1 hS) (rf_1_0 hR) ?_
  refine q_getI (x := nI nP) (pc2 := 43) d_X_by_40 rfl k_X_189 (by decide) (sh_2 hS) ((congrFun hr2 _).trans (hD.1.1)) ?_
  refine q_icmp_ge (tgt := 80) (A := ((i : Nat) : Int)) (B := ((nP : Nat) : Int)) (pc2 := 46) d_X_by_43 rfl rfl (nI_toInt (by omega)) (nI_toInt (by omega)) (fun c1 => ?_) (fun c1 => ?_)
  · refine r_iload_n (pc2 := 81) d_X_by_80 rfl rfl ?_
    refine Run.ret (some (.int (bits P i))) d_X_by_81 ⟨_, rfl⟩ ?_
    rw [show i = nP by omega]; exact hq J v0_
  · refine r_aload_n (x := some 0) (pc2 := 47) d_X_by_46 rfl rfl ?_
    refine r_iload_n (pc2 := 48) d_X_by_47 rfl rfl ?_
    refine r_iload (pc2 := 50) d_X_by_48 rfl rfl ?_
    refine r_callv (M2 := mi_X_answerOne) (pc2 := 53) d_X_by_50 rfl k_X_321 cm_X_answerOne cv_X_answerOne (sh_0 hS) (by decide) rfl rfl rfl (Nat.le_of_ble_eq_true rfl) (c_X_answerOne hS hR hV hV2 hnt6 hW hD hrk (p := i) (by omega) (F := F) (by omega) v0_ (d := d - 1) (by omega)) (d2 := d - 1) (by omega) (Nat.le_of_eq (Nat.zero_add _)) (Nat.le_of_eq (Nat.zero_add _)) (fun r2 h2 hq2 => ?_)
    obtain ⟨K2, rfl, rfl, hK2, hsK2, hnK2, hlK2, hmK2⟩ := hq2
    change Run _ _ _ _ _ _ [.int ((AN (TRK tK tF tC tS) G i F).1)] _ _
    have hr1_K2 : K2 1 = I 1 := hK2.row (by decide) (by rw [sh_1 hS]; decide)
    have hr2_K2 : K2 2 = I 2 := hK2.row (by decide) (by rw [sh_2 hS]; decide)
    have hr3_K2 : K2 3 = I 3 := hK2.row (by decide) (by rw [sh_3 hS]; show 12 ≠ 14; decide)
    have hr4_K2 : K2 4 = I 4 := hK2.row (by decide) (by rw [sh_4 hS]; show 12 ≠ 14; decide)
    have hvK2 := hsK2.2.2.2 F hmK2
    have hlnK2 := nodup_len nF _ hnK2 hlK2
    refine r_pop (pc2 := 54) d_X_by_53 rfl rfl ?_
    refine r_aload_n (x := some 0) (pc2 := 55) d_X_by_54 rfl rfl ?_
    refine q_getR (x := some 718) (pc2 := 58) d_X_by_55 rfl k_X_29 rfl (sh_0 hS) (rf_0_4 hR) ?_
    refine q_getR (x := some 720) (pc2 := 61) d_X_by_58 rfl k_X_327 rfl (sh_718 hS) (rf_718_1 hR) ?_
    refine r_iload_n (pc2 := 62) d_X_by_61 rfl rfl ?_
    refine q_iaload (q := F) (x := (AN (TRK tK tF tC tS) G i F).2.1) (pc2 := 63) d_X_by_62 rfl (sh_720 hS) (nI_toInt (by omega)) (by omega) hvK2.2.1 ?_
    refine r_iload_n (pc2 := 64) d_X_by_63 rfl rfl ?_
    refine q_icmp_ne (tgt := 74) (A := ((AN (TRK tK tF tC tS) G i F).2.1).toInt) (B := v.toInt) (pc2 := 67) d_X_by_64 rfl rfl (rfl) (rfl) (fun c3 => ?_) (fun c3 => ?_)
    · refine q_iinc (b := 1) (pc2 := 77) d_X_by_74 rfl rfl (by decide) (Nat.le_of_ble_eq_true rfl) ?_
      refine r_goto (tgt := 31) d_X_by_77 rfl ?_
      rw [show bits P i = bits P (i + 1) from by rw [bits_s, if_neg (by rw [hP]; simp only [decide_eq_true_eq]; exact fun q => c3 (congrArg Int32.toInt q))]]
      refine Run.sub (l2 := [(0, .ref 0), (1, .int (nI F)), (2, .int v), (3, .int (bits P (i + 1))), (4, .int (nI (i + 1)))]) ⟨rfl, rfl, rfl, rfl, rfl, trivial⟩ ?_
      exact ih_ (nP - (i + 1)) (by omega) (i + 1) K2 rfl (hK2) (by omega)
    · refine r_iload_n (pc2 := 68) d_X_by_67 rfl rfl ?_
      refine r_iconst (v := nI 1) (pc2 := 69) d_X_by_68 rfl (by decide) ?_
      refine r_iload (pc2 := 71) d_X_by_69 rfl rfl ?_
      refine r_ishl (pc2 := 72) d_X_by_71 rfl ?_
      refine r_ior (pc2 := 73) d_X_by_72 rfl ?_
      refine r_istore_n (pc2 := 74) d_X_by_73 rfl rfl (Nat.le_of_ble_eq_true rfl) ?_
      refine q_iinc (b := 1) (pc2 := 77) d_X_by_74 rfl rfl (by decide) (Nat.le_of_ble_eq_true rfl) ?_
      refine r_goto (tgt := 31) d_X_by_77 rfl ?_
      rw [show (bits P i) ||| ((nI 1) <<< ((nI i) &&& 31)) = bits P (i + 1) from by rw [bits_s, if_pos (by rw [hP]; exact decide_eq_true (Int32.toInt_inj.mp c3))]]
      refine Run.sub (l2 := [(0, .ref 0), (1, .int (nI F)), (2, .int v), (3, .int (bits P (i + 1))), (4, .int (nI (i + 1)))]) ⟨rfl, rfl, rfl, rfl, rfl, trivial⟩ ?_
      exact ih_ (nP - (i + 1)) (by omega) (i + 1) K2 rfl (hK2) (by omega)
theorem l_X_overlap {d : Nat} {I : Nat → Nat → Int32} {R : Nat → Nat → Option Nat} {L : Nat → Nat → Int64} {sh : Nat → Nat × Nat} {N : Nat} (hS : ShOK sh) (hR : RfOK R) {tK tF tC tS : Nat → Int32} {nt : Nat} (hV : TV tK tF tC nt) (hV2 : TV2 tK tF tC tS nt) (hnt6 : nt ≤ 1000000) {G : Nat → Int32} {nP nF nS : Nat} (hW : WFA G nP nF nt) (hWT : WFT G nF nS) (hKW : WFK G nP nF) {rk : Nat → Nat} (hrk : RK G nF rk) (hD : DR tK tF tC tS I R sh nt 0 G nP nF nS) {F E : Nat} (hF : F < nF) (hE : E < nF) {P : Nat → Bool} (hP : ∀ p, P p = (decide ((AN (TRK tK tF tC tS) G p F).1 ≠ 0) && decide ((AN (TRK tK tF tC tS) G p E).1 ≠ 0))) {Q : Option Value → HS → Prop} (hq : ∀ K, FrN sh 718 I K → Q (some (.int (bits P nP))) (K, R, L, sh, N)) (hd : 60 ≤ d) : ∀ (n_ : Nat) (i : Nat) (J : Nat → Nat → Int32), nP - i = n_ → (FrN sh 718 I J) → (i ≤ nP) → Run mi_X_overlap d 0 0 28 [(0, .ref 0), (1, .int (nI F)), (2, .int (nI E)), (3, .int (bits P i)), (4, .int (nI i))] [] (J, R, L, sh, N) Q := by
  intro n_
  induction n_ using Nat.strongRecOn with | ind n_ ih_ => ?_
  intro i J hn_ v0_ v1_
  obtain ⟨hPc, hP24, hFc, hF12, hWF, hWP⟩ := id hW
  have hr1 : J 1 = I 1 := v0_.row (by decide) (by rw [sh_1 hS]; decide)
  have hr2 : J 2 = I 2 := v0_.row (by decide) (by rw [sh_2 hS]; decide)
  have hr3 : J 3 = I 3 := v0_.row (by decide) (by rw [sh_3 hS]; show 12 ≠ 14; decide)
  have hr4 : J 4 = I 4 := v0_.row (by decide) (by rw [sh_4 hS]; show 12 ≠ 14; decide)
  refine r_iload (pc2 := 30) d_X_overlap_28 rfl rfl ?_
  refine r_aload_n (x := some 0) (pc2 := 31) d_X_overlap_30 rfl rfl ?_
  refine q_getR (x := some 1) (pc2 := 34) d_X_overlap_31 rfl k_X_12 rfl (sh_0 hS) (rf_0_0 hR) ?_
  refine q_getR (x := some 2) (pc2 := 37) d_X_overlap_34 rfl k_X_179 rfl (sh_1 hS) (rf_1_0 hR) ?_
  refine q_getI (x := nI nP) (pc2 := 40) d_X_overlap_37 rfl k_X_189 (by decide) (sh_2 hS) ((congrFun hr2 _).trans (hD.1.1)) ?_
  refine q_icmp_ge (tgt := 76) (A := ((i : Nat) : Int)) (B := ((nP : Nat) : Int)) (pc2 := 43) d_X_overlap_40 rfl rfl (nI_toInt (by omega)) (nI_toInt (by omega)) (fun c1 => ?_) (fun c1 => ?_)
  · refine r_iload_n (pc2 := 77) d_X_overlap_76 rfl rfl ?_
    refine Run.ret (some (.int (bits P i))) d_X_overlap_77 ⟨_, rfl⟩ ?_
    rw [show i = nP by omega]; exact hq J v0_
  · refine r_aload_n (x := some 0) (pc2 := 44) d_X_overlap_43 rfl rfl ?_
    refine r_iload_n (pc2 := 45) d_X_overlap_44 rfl rfl ?_
    refine r_iload (pc2 := 47) d_X_overlap_45 rfl rfl ?_
    refine r_callv (M2 := mi_X_answerOne) (pc2 := 50) d_X_overlap_47 rfl k_X_321 cm_X_answerOne cv_X_answerOne (sh_0 hS) (by decide) rfl rfl rfl (Nat.le_of_ble_eq_true rfl) (c_X_answerOne hS hR hV hV2 hnt6 hW hD hrk (p := i) (by omega) (F := F) (by omega) v0_ (d := d - 1) (by omega)) (d2 := d - 1) (by omega) (Nat.le_of_eq (Nat.zero_add _)) (Nat.le_of_eq (Nat.zero_add _)) (fun r2 h2 hq2 => ?_)
    obtain ⟨K2, rfl, rfl, hK2, hsK2, hnK2, hlK2, hmK2⟩ := hq2
    change Run _ _ _ _ _ _ [.int ((AN (TRK tK tF tC tS) G i F).1)] _ _
    have hr1_K2 : K2 1 = I 1 := hK2.row (by decide) (by rw [sh_1 hS]; decide)
    have hr2_K2 : K2 2 = I 2 := hK2.row (by decide) (by rw [sh_2 hS]; decide)
    have hr3_K2 : K2 3 = I 3 := hK2.row (by decide) (by rw [sh_3 hS]; show 12 ≠ 14; decide)
    have hr4_K2 : K2 4 = I 4 := hK2.row (by decide) (by rw [sh_4 hS]; show 12 ≠ 14; decide)
    have hvK2 := hsK2.2.2.2 F hmK2
    have hlnK2 := nodup_len nF _ hnK2 hlK2
    refine q_if_eq (tgt := 70) (A := ((AN (TRK tK tF tC tS) G i F).1).toInt) (pc2 := 53) d_X_overlap_50 rfl rfl (rfl) (fun c3 => ?_) (fun c3 => ?_)
    · refine q_iinc (b := 1) (pc2 := 73) d_X_overlap_70 rfl rfl (by decide) (Nat.le_of_ble_eq_true rfl) ?_
      refine r_goto (tgt := 28) d_X_overlap_73 rfl ?_
      rw [show bits P i = bits P (i + 1) from by rw [bits_s, if_neg (by rw [hP]; simp only [Bool.and_eq_true, decide_eq_true_eq]; exact fun q => absurd (Int32.toInt_inj.mp (c3.trans (show (0 : Int) = (0 : Int32).toInt from rfl))) (by first | exact q.2 | exact q.1))]]
      refine Run.sub (l2 := [(0, .ref 0), (1, .int (nI F)), (2, .int (nI E)), (3, .int (bits P (i + 1))), (4, .int (nI (i + 1)))]) ⟨rfl, rfl, rfl, rfl, rfl, trivial⟩ ?_
      exact ih_ (nP - (i + 1)) (by omega) (i + 1) K2 rfl (hK2) (by omega)
    · refine r_aload_n (x := some 0) (pc2 := 54) d_X_overlap_53 rfl rfl ?_
      refine r_iload_n (pc2 := 55) d_X_overlap_54 rfl rfl ?_
      refine r_iload (pc2 := 57) d_X_overlap_55 rfl rfl ?_
      refine r_callv (M2 := mi_X_answerOne) (pc2 := 60) d_X_overlap_57 rfl k_X_321 cm_X_answerOne cv_X_answerOne (sh_0 hS) (by decide) rfl rfl rfl (Nat.le_of_ble_eq_true rfl) (c_X_answerOne hS hR hV hV2 hnt6 hW hD hrk (p := i) (by omega) (F := E) (by omega) hK2 (d := d - 1) (by omega)) (d2 := d - 1) (by omega) (Nat.le_of_eq (Nat.zero_add _)) (Nat.le_of_eq (Nat.zero_add _)) (fun r2 h2 hq2 => ?_)
      obtain ⟨K4, rfl, rfl, hK4, hsK4, hnK4, hlK4, hmK4⟩ := hq2
      change Run _ _ _ _ _ _ [.int ((AN (TRK tK tF tC tS) G i E).1)] _ _
      have hr1_K4 : K4 1 = I 1 := hK4.row (by decide) (by rw [sh_1 hS]; decide)
      have hr2_K4 : K4 2 = I 2 := hK4.row (by decide) (by rw [sh_2 hS]; decide)
      have hr3_K4 : K4 3 = I 3 := hK4.row (by decide) (by rw [sh_3 hS]; show 12 ≠ 14; decide)
      have hr4_K4 : K4 4 = I 4 := hK4.row (by decide) (by rw [sh_4 hS]; show 12 ≠ 14; decide)
      have hvK4 := hsK4.2.2.2 E hmK4
      have hlnK4 := nodup_len nF _ hnK4 hlK4
      refine q_if_eq (tgt := 70) (A := ((AN (TRK tK tF tC tS) G i E).1).toInt) (pc2 := 63) d_X_overlap_60 rfl rfl (rfl) (fun c5 => ?_) (fun c5 => ?_)
      · refine q_iinc (b := 1) (pc2 := 73) d_X_overlap_70 rfl rfl (by decide) (Nat.le_of_ble_eq_true rfl) ?_
        refine r_goto (tgt := 28) d_X_overlap_73 rfl ?_
        rw [show bits P i = bits P (i + 1) from by rw [bits_s, if_neg (by rw [hP]; simp only [Bool.and_eq_true, decide_eq_true_eq]; exact fun q => absurd (Int32.toInt_inj.mp (c5.trans (show (0 : Int) = (0 : Int32).toInt from rfl))) (by first | exact q.2 | exact q.1))]]
        refine Run.sub (l2 := [(0, .ref 0), (1, .int (nI F)), (2, .int (nI E)), (3, .int (bits P (i + 1))), (4, .int (nI (i + 1)))]) ⟨rfl, rfl, rfl, rfl, rfl, trivial⟩ ?_
        exact ih_ (nP - (i + 1)) (by omega) (i + 1) K4 rfl (hK4) (by omega)
      · refine r_iload_n (pc2 := 64) d_X_overlap_63 rfl rfl ?_
        refine r_iconst (v := nI 1) (pc2 := 65) d_X_overlap_64 rfl (by decide) ?_
        refine r_iload (pc2 := 67) d_X_overlap_65 rfl rfl ?_
        refine r_ishl (pc2 := 68) d_X_overlap_67 rfl ?_
        refine r_ior (pc2 := 69) d_X_overlap_68 rfl ?_
        refine r_istore_n (pc2 := 70) d_X_overlap_69 rfl rfl (Nat.le_of_ble_eq_true rfl) ?_
        refine q_iinc (b := 1) (pc2 := 73) d_X_overlap_70 rfl rfl (by decide) (Nat.le_of_ble_eq_true rfl) ?_
        refine r_goto (tgt := 28) d_X_overlap_73 rfl ?_
        rw [show (bits P i) ||| ((nI 1) <<< ((nI i) &&& 31)) = bits P (i + 1) from by rw [bits_s, if_pos (by rw [hP]; simp only [Bool.and_eq_true, decide_eq_true_eq]; exact ⟨fun q => c3 (by rw [q]; rfl), fun q => c5 (by rw [q]; rfl)⟩)]]
        refine Run.sub (l2 := [(0, .ref 0), (1, .int (nI F)), (2, .int (nI E)), (3, .int (bits P (i + 1))), (4, .int (nI (i + 1)))]) ⟨rfl, rfl, rfl, rfl, rfl, trivial⟩ ?_
        exact ih_ (nP - (i + 1)) (by omega) (i + 1) K4 rfl (hK4) (by omega)
theorem c_X_reach {d : Nat} {I : Nat → Nat → Int32} {R : Nat → Nat → Option Nat} {L : Nat → Nat → Int64} {sh : Nat → Nat × Nat} {N : Nat} (hS : ShOK sh) (hR : RfOK R) {tK tF tC tS : Nat → Int32} {nt : Nat} (hV : TV tK tF tC nt) (hV2 : TV2 tK tF tC tS nt) (hnt6 : nt ≤ 1000000) {G : Nat → Int32} {nP nF nS : Nat} (hW : WFA G nP nF nt) (hWT : WFT G nF nS) (hKW : WFK G nP nF) {rk : Nat → Nat} (hrk : RK G nF rk) (hD : DR tK tF tC tS I R sh nt 0 G nP nF nS) {f : Int32} {v : Int32} (hd : 80 ≤ d) : Mt mi_X_reach d 0 0 [.ref 0, .int f, .int v] (I, R, L, sh, N) (XP I R L sh N (o_reach (AN (TRK tK tF tC tS) G) G nP nF f v) (fun K _ => FrX sh I K)) := by
  obtain ⟨hPc, hP24, hFc, hF12, hWF, hWP⟩ := id hW
  refine Mt.of pn_X (Nat.le_of_ble_eq_true rfl) ?_
  show Run mi_X_reach d 0 0 0 [(0, .ref 0), (1, .int f), (2, .int v)] [] (I, R, L, sh, N) _
  refine r_aload_n (x := some 0) (pc2 := 1) d_X_reach_0 rfl rfl ?_
  refine r_iload_n (pc2 := 2) d_X_reach_1 rfl rfl ?_
  refine r_iload_n (pc2 := 3) d_X_reach_2 rfl rfl ?_
  refine q_callv (M2 := mi_X_isVariant) (pc2 := 6) d_X_reach_3 rfl k_X_271 cm_X_isVariant cv_X_isVariant (sh_0 hS) (by decide) rfl rfl rfl (Nat.le_of_ble_eq_true rfl) (c_X_isVariant (f := f) (v := v) hS hR hV hV2 hnt6 hW hWT hKW hrk hD (by omega)) (d2 := d - 1) (by omega) (Nat.le_of_eq (Nat.zero_add _)) (Nat.le_of_eq (Nat.zero_add _)) ?_
  refine q_bif_ne (tgt := 16) (pc2 := 9) d_X_reach_6 rfl rfl (fun c1 => ?_) (fun c1 => ?_)
  · obtain ⟨fN, hfN, rfl, efN⟩ := nat_of c1.1
    obtain ⟨tpfN, klfN, skfN, fbfN, nRfN, nNfN, nOfN, frfN, tofN, ⟨a0fN, b0fN, cc0fN, dd0fN⟩, ⟨a1fN, b1fN, cc1fN, dd1fN⟩, ⟨a2fN, b2fN, cc2fN, dd2fN⟩, ⟨a3fN, b3fN, cc3fN, dd3fN⟩, ⟨a4fN, b4fN, cc4fN, dd4fN⟩, ⟨a5fN, b5fN, cc5fN, dd5fN⟩, ⟨a6fN, b6fN, cc6fN, dd6fN⟩, ⟨a8fN, b8fN, cc8fN, dd8fN⟩, ⟨a9fN, b9fN, cc9fN, dd9fN⟩⟩ := wfn (hWF fN (by omega))
    obtain ⟨-, -, -, -, -, -, -, w7fN, -, -, wNfN, wRfN, wKfN, wOfN⟩ := hWF fN (by omega)
    obtain ⟨⟨x0fN, x1fN, x2fN, x3fN, x4fN, x5fN, x6fN, x7fN, x8fN⟩, xnfN, xofN, xkfN, xcfN, xrfN⟩ := hD.2.2.2.1 fN (by omega)
    simp only [efN, Int.toNat_natCast, b0fN] at c1
    obtain ⟨vN, hvN, gvN, rfl, evN⟩ := nat_of' (Int.le_refl 0) c1.2
    refine r_iconst (v := nI 0) (pc2 := 17) d_X_reach_16 rfl (by decide) ?_
    refine r_istore_n (pc2 := 18) d_X_reach_17 rfl rfl (Nat.le_of_ble_eq_true rfl) ?_
    refine r_iconst (v := nI 0) (pc2 := 19) d_X_reach_18 rfl (by decide) ?_
    refine r_istore (pc2 := 21) d_X_reach_19 rfl (Nat.le_of_ble_eq_true rfl) ?_
    refine Run.sub (l2 := [(0, .ref 0), (1, .int (nI fN)), (2, .int (nI vN)), (3, .int (nI (cnt (fun p => decide ((AN (TRK tK tF tC tS) G p fN).1 = nI vN)) 0))), (4, .int (nI 0))]) ⟨rfl, rfl, rfl, rfl, rfl, trivial⟩ ?_
    exact l_X_reach hS hR hV hV2 hnt6 hW hWT hKW hrk hD (F := fN) (by omega) (v := nI vN) (P := fun p => decide ((AN (TRK tK tF tC tS) G p fN).1 = nI vN)) (fun p => rfl) (fun K hK => XP.val (by (try simp only [efN, b0fN, b1fN, b2fN, b3fN, b4fN, b5fN, b6fN, b8fN, b9fN, evN, Int.toNat_natCast] at c1); (unfold o_reach); (try dsimp only); (try simp only [efN, b0fN, b1fN, b2fN, b3fN, b4fN, b5fN, b6fN, b8fN, b9fN, evN, Int.toNat_natCast]); (repeat (first | rw [if_pos (by omega)] | rw [if_neg (by omega)])); (try rfl); (all_goals first | rfl | (simp only [a0fN, a1fN, a2fN, a3fN, a4fN, a5fN, a6fN, a8fN, a9fN]; done) | (congr 2 <;> omega) | ((repeat' split) <;> first | rfl | (simp only [a0fN, a1fN, a2fN, a3fN, a4fN, a5fN, a6fN, a8fN, a9fN]; done) | (exfalso; omega) | (congr 2 <;> omega) | skip))) FrXR.rf (hK.x (by decide))) (by omega) _ 0 I rfl FrN.rf (Nat.zero_le _)
  · refine r_aload_n (x := some 0) (pc2 := 10) d_X_reach_9 rfl rfl ?_
    refine r_bipush (v := (-32 : Int32)) (pc2 := 12) d_X_reach_10 rfl (by decide) ?_
    refine q_callv (M2 := mi_X_refuse) (pc2 := 15) d_X_reach_12 rfl k_X_75 cm_X_refuse cv_X_refuse (sh_0 hS) (by decide) rfl rfl rfl (Nat.le_of_ble_eq_true rfl) (c_X_refuse_0 (J := I) hS hR) (d2 := d - 1) (by omega) (Nat.le_of_eq (Nat.zero_add _)) (Nat.le_of_eq (Nat.zero_add _)) ?_
    obtain ⟨I2, hI2⟩ : ∃ x, x = u2 I 744 0 (I 744 0 + nI 1) := ⟨_, rfl⟩
    rw [← hI2]
    refine Run.ret (some (.int ((-32 : Int32)))) d_X_reach_15 ⟨_, rfl⟩ ?_
    exact XP.bad hS 0 (by (unfold o_reach); (try dsimp only); (try simp only [Int.toNat_natCast]); (repeat (first | rw [if_pos (by omega)] | rw [if_neg (by omega)])); (try rfl); (all_goals first | rfl | (congr 2 <;> omega) | ((repeat' split) <;> first | rfl | (exfalso; omega) | (congr 2 <;> omega) | skip))) (by decide) FrXR.rf FrX.rf hI2
theorem c_X_by {d : Nat} {I : Nat → Nat → Int32} {R : Nat → Nat → Option Nat} {L : Nat → Nat → Int64} {sh : Nat → Nat × Nat} {N : Nat} (hS : ShOK sh) (hR : RfOK R) {tK tF tC tS : Nat → Int32} {nt : Nat} (hV : TV tK tF tC nt) (hV2 : TV2 tK tF tC tS nt) (hnt6 : nt ≤ 1000000) {G : Nat → Int32} {nP nF nS : Nat} (hW : WFA G nP nF nt) (hWT : WFT G nF nS) (hKW : WFK G nP nF) {rk : Nat → Nat} (hrk : RK G nF rk) (hD : DR tK tF tC tS I R sh nt 0 G nP nF nS) {f : Int32} {k : Int32} (hd : 80 ≤ d) : Mt mi_X_by d 0 0 [.ref 0, .int f, .int k] (I, R, L, sh, N) (XP I R L sh N (o_by (AN (TRK tK tF tC tS) G) nP nF f k) (fun K _ => FrX sh I K)) := by
  obtain ⟨hPc, hP24, hFc, hF12, hWF, hWP⟩ := id hW
  refine Mt.of pn_X (Nat.le_of_ble_eq_true rfl) ?_
  show Run mi_X_by d 0 0 0 [(0, .ref 0), (1, .int f), (2, .int k)] [] (I, R, L, sh, N) _
  refine r_aload_n (x := some 0) (pc2 := 1) d_X_by_0 rfl rfl ?_
  refine r_iload_n (pc2 := 2) d_X_by_1 rfl rfl ?_
  refine q_callv (M2 := mi_X_isFeature) (pc2 := 5) d_X_by_2 rfl k_X_220 cm_X_isFeature cv_X_isFeature (sh_0 hS) (by decide) rfl rfl rfl (Nat.le_of_ble_eq_true rfl) (c_X_isFeature (f := f) hS hR hV hV2 hnt6 hW hWT hKW hrk hD) (d2 := d - 1) (by omega) (Nat.le_of_eq (Nat.zero_add _)) (Nat.le_of_eq (Nat.zero_add _)) ?_
  refine q_bif_eq (tgt := 19) (pc2 := 8) d_X_by_5 rfl rfl (fun c1 => ?_) (fun c1 => ?_)
  · refine r_aload_n (x := some 0) (pc2 := 20) d_X_by_19 rfl rfl ?_
    refine r_bipush (v := (-32 : Int32)) (pc2 := 22) d_X_by_20 rfl (by decide) ?_
    refine q_callv (M2 := mi_X_refuse) (pc2 := 25) d_X_by_22 rfl k_X_75 cm_X_refuse cv_X_refuse (sh_0 hS) (by decide) rfl rfl rfl (Nat.le_of_ble_eq_true rfl) (c_X_refuse_0 (J := I) hS hR) (d2 := d - 1) (by omega) (Nat.le_of_eq (Nat.zero_add _)) (Nat.le_of_eq (Nat.zero_add _)) ?_
    obtain ⟨I2, hI2⟩ : ∃ x, x = u2 I 744 0 (I 744 0 + nI 1) := ⟨_, rfl⟩
    rw [← hI2]
    refine Run.ret (some (.int ((-32 : Int32)))) d_X_by_25 ⟨_, rfl⟩ ?_
    exact XP.bad hS 0 (by (unfold o_by); (try dsimp only); (try simp only [Int.toNat_natCast]); (repeat (first | rw [if_pos (by omega)] | rw [if_neg (by omega)])); (try rfl); (all_goals first | rfl | (congr 2 <;> omega) | ((repeat' split) <;> first | rfl | (exfalso; omega) | (congr 2 <;> omega) | skip))) (by decide) FrXR.rf FrX.rf hI2
  · obtain ⟨fN, hfN, rfl, efN⟩ := nat_of c1
    obtain ⟨tpfN, klfN, skfN, fbfN, nRfN, nNfN, nOfN, frfN, tofN, ⟨a0fN, b0fN, cc0fN, dd0fN⟩, ⟨a1fN, b1fN, cc1fN, dd1fN⟩, ⟨a2fN, b2fN, cc2fN, dd2fN⟩, ⟨a3fN, b3fN, cc3fN, dd3fN⟩, ⟨a4fN, b4fN, cc4fN, dd4fN⟩, ⟨a5fN, b5fN, cc5fN, dd5fN⟩, ⟨a6fN, b6fN, cc6fN, dd6fN⟩, ⟨a8fN, b8fN, cc8fN, dd8fN⟩, ⟨a9fN, b9fN, cc9fN, dd9fN⟩⟩ := wfn (hWF fN (by omega))
    obtain ⟨-, -, -, -, -, -, -, w7fN, -, -, wNfN, wRfN, wKfN, wOfN⟩ := hWF fN (by omega)
    obtain ⟨⟨x0fN, x1fN, x2fN, x3fN, x4fN, x5fN, x6fN, x7fN, x8fN⟩, xnfN, xofN, xkfN, xcfN, xrfN⟩ := hD.2.2.2.1 fN (by omega)
    refine r_iload_n (pc2 := 9) d_X_by_8 rfl rfl ?_
    refine r_iconst (v := nI 1) (pc2 := 10) d_X_by_9 rfl (by decide) ?_
    refine q_icmp_lt (tgt := 19) (A := k.toInt) (B := (1 : Int)) (pc2 := 13) d_X_by_10 rfl rfl (rfl) (nI_toInt (by omega)) (fun c3 => ?_) (fun c3 => ?_)
    · refine r_aload_n (x := some 0) (pc2 := 20) d_X_by_19 rfl rfl ?_
      refine r_bipush (v := (-32 : Int32)) (pc2 := 22) d_X_by_20 rfl (by decide) ?_
      refine q_callv (M2 := mi_X_refuse) (pc2 := 25) d_X_by_22 rfl k_X_75 cm_X_refuse cv_X_refuse (sh_0 hS) (by decide) rfl rfl rfl (Nat.le_of_ble_eq_true rfl) (c_X_refuse_0 (J := I) hS hR) (d2 := d - 1) (by omega) (Nat.le_of_eq (Nat.zero_add _)) (Nat.le_of_eq (Nat.zero_add _)) ?_
      obtain ⟨I4, hI4⟩ : ∃ x, x = u2 I 744 0 (I 744 0 + nI 1) := ⟨_, rfl⟩
      rw [← hI4]
      refine Run.ret (some (.int ((-32 : Int32)))) d_X_by_25 ⟨_, rfl⟩ ?_
      exact XP.bad hS 0 (by (try simp only [efN, b0fN, b1fN, b2fN, b3fN, b4fN, b5fN, b6fN, b8fN, b9fN, Int.toNat_natCast] at c1 c3); (unfold o_by); (try dsimp only); (try simp only [efN, b0fN, b1fN, b2fN, b3fN, b4fN, b5fN, b6fN, b8fN, b9fN, Int.toNat_natCast]); (repeat (first | rw [if_pos (by omega)] | rw [if_neg (by omega)])); (try rfl); (all_goals first | rfl | (simp only [a0fN, a1fN, a2fN, a3fN, a4fN, a5fN, a6fN, a8fN, a9fN]; done) | (congr 2 <;> omega) | ((repeat' split) <;> first | rfl | (simp only [a0fN, a1fN, a2fN, a3fN, a4fN, a5fN, a6fN, a8fN, a9fN]; done) | (exfalso; omega) | (congr 2 <;> omega) | skip))) (by decide) FrXR.rf FrX.rf hI4
    · refine r_iload_n (pc2 := 14) d_X_by_13 rfl rfl ?_
      refine r_bipush (v := nI 7) (pc2 := 16) d_X_by_14 rfl (by decide) ?_
      refine q_icmp_le (tgt := 26) (A := k.toInt) (B := (7 : Int)) (pc2 := 19) d_X_by_16 rfl rfl (rfl) (nI_toInt (by omega)) (fun c5 => ?_) (fun c5 => ?_)
      · refine r_iconst (v := nI 0) (pc2 := 27) d_X_by_26 rfl (by decide) ?_
        refine r_istore_n (pc2 := 28) d_X_by_27 rfl rfl (Nat.le_of_ble_eq_true rfl) ?_
        refine r_iconst (v := nI 0) (pc2 := 29) d_X_by_28 rfl (by decide) ?_
        refine r_istore (pc2 := 31) d_X_by_29 rfl (Nat.le_of_ble_eq_true rfl) ?_
        refine Run.sub (l2 := [(0, .ref 0), (1, .int (nI fN)), (2, .int k), (3, .int (bits (fun p => decide ((AN (TRK tK tF tC tS) G p fN).2.1 = k)) 0)), (4, .int (nI 0))]) ⟨rfl, rfl, rfl, rfl, rfl, trivial⟩ ?_
        exact l_X_by hS hR hV hV2 hnt6 hW hWT hKW hrk hD (F := fN) (by omega) (v := k) (P := fun p => decide ((AN (TRK tK tF tC tS) G p fN).2.1 = k)) (fun p => rfl) (fun K hK => XP.val (by (try simp only [efN, b0fN, b1fN, b2fN, b3fN, b4fN, b5fN, b6fN, b8fN, b9fN, Int.toNat_natCast] at c1 c3 c5); (unfold o_by); (try dsimp only); (try simp only [efN, b0fN, b1fN, b2fN, b3fN, b4fN, b5fN, b6fN, b8fN, b9fN, Int.toNat_natCast]); (repeat (first | rw [if_pos (by omega)] | rw [if_neg (by omega)])); (try rfl); (all_goals first | rfl | (simp only [a0fN, a1fN, a2fN, a3fN, a4fN, a5fN, a6fN, a8fN, a9fN]; done) | (congr 2 <;> omega) | ((repeat' split) <;> first | rfl | (simp only [a0fN, a1fN, a2fN, a3fN, a4fN, a5fN, a6fN, a8fN, a9fN]; done) | (exfalso; omega) | (congr 2 <;> omega) | skip))) FrXR.rf (hK.x (by decide))) (by omega) _ 0 I rfl FrN.rf (Nat.zero_le _)
      · refine r_aload_n (x := some 0) (pc2 := 20) d_X_by_19 rfl rfl ?_
        refine r_bipush (v := (-32 : Int32)) (pc2 := 22) d_X_by_20 rfl (by decide) ?_
        refine q_callv (M2 := mi_X_refuse) (pc2 := 25) d_X_by_22 rfl k_X_75 cm_X_refuse cv_X_refuse (sh_0 hS) (by decide) rfl rfl rfl (Nat.le_of_ble_eq_true rfl) (c_X_refuse_0 (J := I) hS hR) (d2 := d - 1) (by omega) (Nat.le_of_eq (Nat.zero_add _)) (Nat.le_of_eq (Nat.zero_add _)) ?_
        obtain ⟨I6, hI6⟩ : ∃ x, x = u2 I 744 0 (I 744 0 + nI 1) := ⟨_, rfl⟩
        rw [← hI6]
        refine Run.ret (some (.int ((-32 : Int32)))) d_X_by_25 ⟨_, rfl⟩ ?_
        exact XP.bad hS 0 (by (try simp only [efN, b0fN, b1fN, b2fN, b3fN, b4fN, b5fN, b6fN, b8fN, b9fN, Int.toNat_natCast] at c1 c3 c5); (unfold o_by); (try dsimp only); (try simp only [efN, b0fN, b1fN, b2fN, b3fN, b4fN, b5fN, b6fN, b8fN, b9fN, Int.toNat_natCast]); (repeat (first | rw [if_pos (by omega)] | rw [if_neg (by omega)])); (try rfl); (all_goals first | rfl | (simp only [a0fN, a1fN, a2fN, a3fN, a4fN, a5fN, a6fN, a8fN, a9fN]; done) | (congr 2 <;> omega) | ((repeat' split) <;> first | rfl | (simp only [a0fN, a1fN, a2fN, a3fN, a4fN, a5fN, a6fN, a8fN, a9fN]; done) | (exfalso; omega) | (congr 2 <;> omega) | skip))) (by decide) FrXR.rf FrX.rf hI6
theorem c_X_overlap {d : Nat} {I : Nat → Nat → Int32} {R : Nat → Nat → Option Nat} {L : Nat → Nat → Int64} {sh : Nat → Nat × Nat} {N : Nat} (hS : ShOK sh) (hR : RfOK R) {tK tF tC tS : Nat → Int32} {nt : Nat} (hV : TV tK tF tC nt) (hV2 : TV2 tK tF tC tS nt) (hnt6 : nt ≤ 1000000) {G : Nat → Int32} {nP nF nS : Nat} (hW : WFA G nP nF nt) (hWT : WFT G nF nS) (hKW : WFK G nP nF) {rk : Nat → Nat} (hrk : RK G nF rk) (hD : DR tK tF tC tS I R sh nt 0 G nP nF nS) {f : Int32} {k : Int32} (hd : 80 ≤ d) : Mt mi_X_overlap d 0 0 [.ref 0, .int f, .int k] (I, R, L, sh, N) (XP I R L sh N (o_overlap (AN (TRK tK tF tC tS) G) nP nF f k) (fun K _ => FrX sh I K)) := by
  obtain ⟨hPc, hP24, hFc, hF12, hWF, hWP⟩ := id hW
  refine Mt.of pn_X (Nat.le_of_ble_eq_true rfl) ?_
  show Run mi_X_overlap d 0 0 0 [(0, .ref 0), (1, .int f), (2, .int k)] [] (I, R, L, sh, N) _
  refine r_aload_n (x := some 0) (pc2 := 1) d_X_overlap_0 rfl rfl ?_
  refine r_iload_n (pc2 := 2) d_X_overlap_1 rfl rfl ?_
  refine q_callv (M2 := mi_X_isFeature) (pc2 := 5) d_X_overlap_2 rfl k_X_220 cm_X_isFeature cv_X_isFeature (sh_0 hS) (by decide) rfl rfl rfl (Nat.le_of_ble_eq_true rfl) (c_X_isFeature (f := f) hS hR hV hV2 hnt6 hW hWT hKW hrk hD) (d2 := d - 1) (by omega) (Nat.le_of_eq (Nat.zero_add _)) (Nat.le_of_eq (Nat.zero_add _)) ?_
  refine q_bif_eq (tgt := 16) (pc2 := 8) d_X_overlap_5 rfl rfl (fun c1 => ?_) (fun c1 => ?_)
  · refine r_aload_n (x := some 0) (pc2 := 17) d_X_overlap_16 rfl rfl ?_
    refine r_bipush (v := (-32 : Int32)) (pc2 := 19) d_X_overlap_17 rfl (by decide) ?_
    refine q_callv (M2 := mi_X_refuse) (pc2 := 22) d_X_overlap_19 rfl k_X_75 cm_X_refuse cv_X_refuse (sh_0 hS) (by decide) rfl rfl rfl (Nat.le_of_ble_eq_true rfl) (c_X_refuse_0 (J := I) hS hR) (d2 := d - 1) (by omega) (Nat.le_of_eq (Nat.zero_add _)) (Nat.le_of_eq (Nat.zero_add _)) ?_
    obtain ⟨I2, hI2⟩ : ∃ x, x = u2 I 744 0 (I 744 0 + nI 1) := ⟨_, rfl⟩
    rw [← hI2]
    refine Run.ret (some (.int ((-32 : Int32)))) d_X_overlap_22 ⟨_, rfl⟩ ?_
    exact XP.bad hS 0 (by (unfold o_overlap); (try dsimp only); (try simp only [Int.toNat_natCast]); (repeat (first | rw [if_pos (by omega)] | rw [if_neg (by omega)])); (try rfl); (all_goals first | rfl | (congr 2 <;> omega) | ((repeat' split) <;> first | rfl | (exfalso; omega) | (congr 2 <;> omega) | skip))) (by decide) FrXR.rf FrX.rf hI2
  · obtain ⟨fN, hfN, rfl, efN⟩ := nat_of c1
    obtain ⟨tpfN, klfN, skfN, fbfN, nRfN, nNfN, nOfN, frfN, tofN, ⟨a0fN, b0fN, cc0fN, dd0fN⟩, ⟨a1fN, b1fN, cc1fN, dd1fN⟩, ⟨a2fN, b2fN, cc2fN, dd2fN⟩, ⟨a3fN, b3fN, cc3fN, dd3fN⟩, ⟨a4fN, b4fN, cc4fN, dd4fN⟩, ⟨a5fN, b5fN, cc5fN, dd5fN⟩, ⟨a6fN, b6fN, cc6fN, dd6fN⟩, ⟨a8fN, b8fN, cc8fN, dd8fN⟩, ⟨a9fN, b9fN, cc9fN, dd9fN⟩⟩ := wfn (hWF fN (by omega))
    obtain ⟨-, -, -, -, -, -, -, w7fN, -, -, wNfN, wRfN, wKfN, wOfN⟩ := hWF fN (by omega)
    obtain ⟨⟨x0fN, x1fN, x2fN, x3fN, x4fN, x5fN, x6fN, x7fN, x8fN⟩, xnfN, xofN, xkfN, xcfN, xrfN⟩ := hD.2.2.2.1 fN (by omega)
    refine r_aload_n (x := some 0) (pc2 := 9) d_X_overlap_8 rfl rfl ?_
    refine r_iload_n (pc2 := 10) d_X_overlap_9 rfl rfl ?_
    refine q_callv (M2 := mi_X_isFeature) (pc2 := 13) d_X_overlap_10 rfl k_X_220 cm_X_isFeature cv_X_isFeature (sh_0 hS) (by decide) rfl rfl rfl (Nat.le_of_ble_eq_true rfl) (c_X_isFeature (f := k) hS hR hV hV2 hnt6 hW hWT hKW hrk hD) (d2 := d - 1) (by omega) (Nat.le_of_eq (Nat.zero_add _)) (Nat.le_of_eq (Nat.zero_add _)) ?_
    refine q_bif_ne (tgt := 23) (pc2 := 16) d_X_overlap_13 rfl rfl (fun c3 => ?_) (fun c3 => ?_)
    · obtain ⟨kN, hkN, rfl, ekN⟩ := nat_of c3
      obtain ⟨tpkN, klkN, skkN, fbkN, nRkN, nNkN, nOkN, frkN, tokN, ⟨a0kN, b0kN, cc0kN, dd0kN⟩, ⟨a1kN, b1kN, cc1kN, dd1kN⟩, ⟨a2kN, b2kN, cc2kN, dd2kN⟩, ⟨a3kN, b3kN, cc3kN, dd3kN⟩, ⟨a4kN, b4kN, cc4kN, dd4kN⟩, ⟨a5kN, b5kN, cc5kN, dd5kN⟩, ⟨a6kN, b6kN, cc6kN, dd6kN⟩, ⟨a8kN, b8kN, cc8kN, dd8kN⟩, ⟨a9kN, b9kN, cc9kN, dd9kN⟩⟩ := wfn (hWF kN (by omega))
      obtain ⟨-, -, -, -, -, -, -, w7kN, -, -, wNkN, wRkN, wKkN, wOkN⟩ := hWF kN (by omega)
      obtain ⟨⟨x0kN, x1kN, x2kN, x3kN, x4kN, x5kN, x6kN, x7kN, x8kN⟩, xnkN, xokN, xkkN, xckN, xrkN⟩ := hD.2.2.2.1 kN (by omega)
      refine r_iconst (v := nI 0) (pc2 := 24) d_X_overlap_23 rfl (by decide) ?_
      refine r_istore_n (pc2 := 25) d_X_overlap_24 rfl rfl (Nat.le_of_ble_eq_true rfl) ?_
      refine r_iconst (v := nI 0) (pc2 := 26) d_X_overlap_25 rfl (by decide) ?_
      refine r_istore (pc2 := 28) d_X_overlap_26 rfl (Nat.le_of_ble_eq_true rfl) ?_
      refine Run.sub (l2 := [(0, .ref 0), (1, .int (nI fN)), (2, .int (nI kN)), (3, .int (bits (fun p => decide ((AN (TRK tK tF tC tS) G p fN).1 ≠ 0) && decide ((AN (TRK tK tF tC tS) G p kN).1 ≠ 0)) 0)), (4, .int (nI 0))]) ⟨rfl, rfl, rfl, rfl, rfl, trivial⟩ ?_
      exact l_X_overlap hS hR hV hV2 hnt6 hW hWT hKW hrk hD (F := fN) (E := kN) (by omega) (by omega) (P := fun p => decide ((AN (TRK tK tF tC tS) G p fN).1 ≠ 0) && decide ((AN (TRK tK tF tC tS) G p kN).1 ≠ 0)) (fun p => rfl) (fun K hK => XP.val (by (try simp only [efN, b0fN, b1fN, b2fN, b3fN, b4fN, b5fN, b6fN, b8fN, b9fN, ekN, b0kN, b1kN, b2kN, b3kN, b4kN, b5kN, b6kN, b8kN, b9kN, Int.toNat_natCast] at c1 c3); (unfold o_overlap); (try dsimp only); (try simp only [efN, b0fN, b1fN, b2fN, b3fN, b4fN, b5fN, b6fN, b8fN, b9fN, ekN, b0kN, b1kN, b2kN, b3kN, b4kN, b5kN, b6kN, b8kN, b9kN, Int.toNat_natCast]); (repeat (first | rw [if_pos (by omega)] | rw [if_neg (by omega)])); (try rfl); (all_goals first | rfl | (simp only [a0fN, a1fN, a2fN, a3fN, a4fN, a5fN, a6fN, a8fN, a9fN, a0kN, a1kN, a2kN, a3kN, a4kN, a5kN, a6kN, a8kN, a9kN]; done) | (congr 2 <;> omega) | ((repeat' split) <;> first | rfl | (simp only [a0fN, a1fN, a2fN, a3fN, a4fN, a5fN, a6fN, a8fN, a9fN, a0kN, a1kN, a2kN, a3kN, a4kN, a5kN, a6kN, a8kN, a9kN]; done) | (exfalso; omega) | (congr 2 <;> omega) | skip))) FrXR.rf (hK.x (by decide))) (by omega) _ 0 I rfl FrN.rf (Nat.zero_le _)
    · refine r_aload_n (x := some 0) (pc2 := 17) d_X_overlap_16 rfl rfl ?_
      refine r_bipush (v := (-32 : Int32)) (pc2 := 19) d_X_overlap_17 rfl (by decide) ?_
      refine q_callv (M2 := mi_X_refuse) (pc2 := 22) d_X_overlap_19 rfl k_X_75 cm_X_refuse cv_X_refuse (sh_0 hS) (by decide) rfl rfl rfl (Nat.le_of_ble_eq_true rfl) (c_X_refuse_0 (J := I) hS hR) (d2 := d - 1) (by omega) (Nat.le_of_eq (Nat.zero_add _)) (Nat.le_of_eq (Nat.zero_add _)) ?_
      obtain ⟨I4, hI4⟩ : ∃ x, x = u2 I 744 0 (I 744 0 + nI 1) := ⟨_, rfl⟩
      rw [← hI4]
      refine Run.ret (some (.int ((-32 : Int32)))) d_X_overlap_22 ⟨_, rfl⟩ ?_
      exact XP.bad hS 0 (by (try simp only [efN, b0fN, b1fN, b2fN, b3fN, b4fN, b5fN, b6fN, b8fN, b9fN, Int.toNat_natCast] at c1 c3); (unfold o_overlap); (try dsimp only); (try simp only [efN, b0fN, b1fN, b2fN, b3fN, b4fN, b5fN, b6fN, b8fN, b9fN, Int.toNat_natCast]); (repeat (first | rw [if_pos (by omega)] | rw [if_neg (by omega)])); (try rfl); (all_goals first | rfl | (simp only [a0fN, a1fN, a2fN, a3fN, a4fN, a5fN, a6fN, a8fN, a9fN]; done) | (congr 2 <;> omega) | ((repeat' split) <;> first | rfl | (simp only [a0fN, a1fN, a2fN, a3fN, a4fN, a5fN, a6fN, a8fN, a9fN]; done) | (exfalso; omega) | (congr 2 <;> omega) | skip))) (by decide) FrXR.rf FrX.rf hI4
theorem c_X_kept {d : Nat} {I : Nat → Nat → Int32} {R : Nat → Nat → Option Nat} {L : Nat → Nat → Int64} {sh : Nat → Nat × Nat} {N : Nat} (hS : ShOK sh) (hR : RfOK R) {tK tF tC tS : Nat → Int32} {nt : Nat} (hV : TV tK tF tC nt) (hV2 : TV2 tK tF tC tS nt) (hnt6 : nt ≤ 1000000) {G : Nat → Int32} {nP nF nS : Nat} (hW : WFA G nP nF nt) (hWT : WFT G nF nS) (hKW : WFK G nP nF) {rk : Nat → Nat} (hrk : RK G nF rk) (hD : DR tK tF tC tS I R sh nt 0 G nP nF nS) {f : Int32} {key : Int32} (hd : 80 ≤ d) : Mt mi_X_kept d 0 0 [.ref 0, .int f, .int key] (I, R, L, sh, N) (XP I R L sh N (o_kept G nP nF f key) (fun K _ => FrX sh I K)) := by
  obtain ⟨hPc, hP24, hFc, hF12, hWF, hWP⟩ := id hW
  refine Mt.of pn_X (Nat.le_of_ble_eq_true rfl) ?_
  show Run mi_X_kept d 0 0 0 [(0, .ref 0), (1, .int f), (2, .int key)] [] (I, R, L, sh, N) _
  refine r_aload_n (x := some 0) (pc2 := 1) d_X_kept_0 rfl rfl ?_
  refine q_getR (x := some 1) (pc2 := 4) d_X_kept_1 rfl k_X_12 rfl (sh_0 hS) (rf_0_0 hR) ?_
  refine q_getR (x := some 2) (pc2 := 7) d_X_kept_4 rfl k_X_179 rfl (sh_1 hS) (rf_1_0 hR) ?_
  refine r_iload_n (pc2 := 8) d_X_kept_7 rfl rfl ?_
  refine r_i2l (pc2 := 9) d_X_kept_8 rfl ?_
  refine q_callv (M2 := mi_Pe_find) (pc2 := 12) d_X_kept_9 rfl k_X_183 cm_Pe_find cv_Pe_find (sh_2 hS) (by decide) rfl rfl rfl (Nat.le_of_ble_eq_true rfl) (c_Pe_find (x := key.toInt64) hS hR hV hV2 hnt6 hW hWT hKW hrk hD) (d2 := d - 1) (by omega) (Nat.le_of_eq (Nat.zero_add _)) (Nat.le_of_eq (Nat.zero_add _)) ?_
  refine q_top (y := vo (pB G nP key)) (by rw [fL_i]) ?_
  cases hopkkey : pB G nP key with
  | none =>
    refine r_istore_n (pc2 := 13) d_X_kept_12 rfl rfl (Nat.le_of_ble_eq_true rfl) ?_
    refine r_iload_n (pc2 := 14) d_X_kept_13 rfl rfl ?_
    refine r_iconst (v := (-1 : Int32)) (pc2 := 15) d_X_kept_14 rfl (by decide) ?_
    refine q_icmp_eq (tgt := 26) (A := (-1 : Int)) (B := (-1 : Int)) (pc2 := 18) d_X_kept_15 rfl rfl (by decide) (by decide) (fun c1 => ?_) (fun c1 => ?_)
    rotate_left
    · exfalso; omega
    refine r_aload_n (x := some 0) (pc2 := 27) d_X_kept_26 rfl rfl ?_
    refine r_bipush (v := (-32 : Int32)) (pc2 := 29) d_X_kept_27 rfl (by decide) ?_
    refine q_callv (M2 := mi_X_refuse) (pc2 := 32) d_X_kept_29 rfl k_X_75 cm_X_refuse cv_X_refuse (sh_0 hS) (by decide) rfl rfl rfl (Nat.le_of_ble_eq_true rfl) (c_X_refuse_0 (J := I) hS hR) (d2 := d - 1) (by omega) (Nat.le_of_eq (Nat.zero_add _)) (Nat.le_of_eq (Nat.zero_add _)) ?_
    obtain ⟨I2, hI2⟩ : ∃ x, x = u2 I 744 0 (I 744 0 + nI 1) := ⟨_, rfl⟩
    rw [← hI2]
    refine Run.ret (some (.int ((-32 : Int32)))) d_X_kept_32 ⟨_, rfl⟩ ?_
    first | (exfalso; omega) | exact XP.bad hS 0 (by (unfold o_kept); (try dsimp only); (try simp only [Int.toNat_natCast]); (repeat (first | rw [if_pos (by omega)] | rw [if_neg (by omega)] | (rw [hopkkey]; try dsimp only))); (try rfl); (all_goals first | rfl | (congr 2 <;> omega) | ((repeat' split) <;> first | rfl | (exfalso; omega) | (congr 2 <;> omega) | skip))) (by decide) FrXR.rf FrX.rf hI2
  | some pkkey =>
    obtain ⟨hppkkey, hqpkkey, -⟩ := fst1_spec (show fst1 _ _ = some pkkey from hopkkey)
    refine r_istore_n (pc2 := 13) d_X_kept_12 rfl rfl (Nat.le_of_ble_eq_true rfl) ?_
    refine r_iload_n (pc2 := 14) d_X_kept_13 rfl rfl ?_
    refine r_iconst (v := (-1 : Int32)) (pc2 := 15) d_X_kept_14 rfl (by decide) ?_
    refine q_icmp_eq (tgt := 26) (A := ((pkkey : Nat) : Int)) (B := (-1 : Int)) (pc2 := 18) d_X_kept_15 rfl rfl (nI_toInt (by omega)) (by decide) (fun c3 => ?_) (fun c3 => ?_)
    · exfalso; omega
    refine r_aload_n (x := some 0) (pc2 := 19) d_X_kept_18 rfl rfl ?_
    refine r_iload_n (pc2 := 20) d_X_kept_19 rfl rfl ?_
    refine q_callv (M2 := mi_X_isFeature) (pc2 := 23) d_X_kept_20 rfl k_X_220 cm_X_isFeature cv_X_isFeature (sh_0 hS) (by decide) rfl rfl rfl (Nat.le_of_ble_eq_true rfl) (c_X_isFeature (f := f) hS hR hV hV2 hnt6 hW hWT hKW hrk hD) (d2 := d - 1) (by omega) (Nat.le_of_eq (Nat.zero_add _)) (Nat.le_of_eq (Nat.zero_add _)) ?_
    refine q_bif_ne (tgt := 33) (pc2 := 26) d_X_kept_23 rfl rfl (fun c4 => ?_) (fun c4 => ?_)
    · obtain ⟨fN, hfN, rfl, efN⟩ := nat_of c4
      obtain ⟨tpfN, klfN, skfN, fbfN, nRfN, nNfN, nOfN, frfN, tofN, ⟨a0fN, b0fN, cc0fN, dd0fN⟩, ⟨a1fN, b1fN, cc1fN, dd1fN⟩, ⟨a2fN, b2fN, cc2fN, dd2fN⟩, ⟨a3fN, b3fN, cc3fN, dd3fN⟩, ⟨a4fN, b4fN, cc4fN, dd4fN⟩, ⟨a5fN, b5fN, cc5fN, dd5fN⟩, ⟨a6fN, b6fN, cc6fN, dd6fN⟩, ⟨a8fN, b8fN, cc8fN, dd8fN⟩, ⟨a9fN, b9fN, cc9fN, dd9fN⟩⟩ := wfn (hWF fN (by omega))
      obtain ⟨-, -, -, -, -, -, -, w7fN, -, -, wNfN, wRfN, wKfN, wOfN⟩ := hWF fN (by omega)
      obtain ⟨⟨x0fN, x1fN, x2fN, x3fN, x4fN, x5fN, x6fN, x7fN, x8fN⟩, xnfN, xofN, xkfN, xcfN, xrfN⟩ := hD.2.2.2.1 fN (by omega)
      refine r_aload_n (x := some 0) (pc2 := 34) d_X_kept_33 rfl rfl ?_
      refine q_getR (x := some 1) (pc2 := 37) d_X_kept_34 rfl k_X_12 rfl (sh_0 hS) (rf_0_0 hR) ?_
      refine q_getR (x := some 5) (pc2 := 40) d_X_kept_37 rfl k_X_211 rfl (sh_1 hS) (rf_1_1 hR) ?_
      refine r_iload_n (pc2 := 41) d_X_kept_40 rfl rfl ?_
      refine q_aaload (q := fN) (x := some (fe 0 fN)) (pc2 := 42) d_X_kept_41 rfl (sh_5 hS) (by decide) (by decide) (nI_toInt (by omega)) (by omega) (rf_fe hR (show 0 < 3 by decide) (show fN < 12 by omega)) ?_
      refine q_getR (x := some (fe 0 fN + 5)) (pc2 := 45) d_X_kept_42 rfl k_X_365 rfl (sh_fe0 hS (show 0 < 3 by decide) (show fN < 12 by omega)) (rf_fe_10 hR (show 0 < 3 by decide) (show fN < 12 by omega)) ?_
      refine r_iload_n (pc2 := 46) d_X_kept_45 rfl rfl ?_
      refine q_iaload (q := pkkey) (x := kpV (G (174 + 84 * fN + (36 + pkkey)))) (pc2 := 47) d_X_kept_46 rfl (sh_fe5 hS (show 0 < 3 by decide) (show fN < 12 by omega)) (nI_toInt (by omega)) (by omega) ((xkfN pkkey (by omega)).trans (if_pos (by omega))) ?_
      refine Run.ret (some (.int (kpV (G (174 + 84 * fN + (36 + pkkey)))))) d_X_kept_47 ⟨_, rfl⟩ ?_
      refine XP.val ?_ FrXR.rf FrX.rf
      (unfold o_kept); rw [hopkkey]; (try dsimp only); (try simp only [efN, Int.toNat_natCast]); rw [if_pos (by omega)]; unfold kpV; split <;> rfl
    · refine r_aload_n (x := some 0) (pc2 := 27) d_X_kept_26 rfl rfl ?_
      refine r_bipush (v := (-32 : Int32)) (pc2 := 29) d_X_kept_27 rfl (by decide) ?_
      refine q_callv (M2 := mi_X_refuse) (pc2 := 32) d_X_kept_29 rfl k_X_75 cm_X_refuse cv_X_refuse (sh_0 hS) (by decide) rfl rfl rfl (Nat.le_of_ble_eq_true rfl) (c_X_refuse_0 (J := I) hS hR) (d2 := d - 1) (by omega) (Nat.le_of_eq (Nat.zero_add _)) (Nat.le_of_eq (Nat.zero_add _)) ?_
      obtain ⟨I5, hI5⟩ : ∃ x, x = u2 I 744 0 (I 744 0 + nI 1) := ⟨_, rfl⟩
      rw [← hI5]
      refine Run.ret (some (.int ((-32 : Int32)))) d_X_kept_32 ⟨_, rfl⟩ ?_
      first | (exfalso; omega) | exact XP.bad hS 0 (by (unfold o_kept); (try dsimp only); (try simp only [Int.toNat_natCast]); (repeat (first | rw [if_pos (by omega)] | rw [if_neg (by omega)] | (rw [hopkkey]; try dsimp only))); (try rfl); (all_goals first | rfl | (congr 2 <;> omega) | ((repeat' split) <;> first | rfl | (exfalso; omega) | (congr 2 <;> omega) | skip))) (by decide) FrXR.rf FrX.rf hI5
