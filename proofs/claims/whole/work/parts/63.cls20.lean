/-! THE CLASS: the tape -/
theorem c_X_feed {d : Nat} {J : Nat → Nat → Int32} {R : Nat → Nat → Option Nat} {L : Nat → Nat → Int64} {sh : Nat → Nat × Nat} {N : Nat} (hS : ShOK sh) (hR : RfOK R) {t : Nat} (hT : J 0 9 = nI t) (ht : t ≤ 250) {v : Int32} (hd : 2 ≤ d) : Mt mi_X_feed d 0 0 [.ref 0, .int v] (J, R, L, sh, N) (XD J R L sh N (o_feed (nI t) v) (fun K R' => R' = R ∧ ∃ K1, K1 = u2 J 730 t v ∧ K = u2 K1 0 9 (nI (t + 1)))) := by
  have et : (nI t).toInt = (t : Int) := nI_toInt (by omega)
  refine Mt.of pn_X (Nat.le_of_ble_eq_true rfl) ?_
  show Run mi_X_feed d 0 0 0 [(0, .ref 0), (1, .int v)] [] (J, R, L, sh, N) _
  refine r_iload_n (pc2 := 1) d_X_feed_0 rfl rfl ?_
  refine q_if_lt (tgt := 11) (A := v.toInt) (pc2 := 4) d_X_feed_1 rfl rfl (rfl) (fun c1 => ?_) (fun c1 => ?_)
  · refine r_aload_n (x := some 0) (pc2 := 12) d_X_feed_11 rfl rfl ?_
    refine r_bipush (v := (-32 : Int32)) (pc2 := 14) d_X_feed_12 rfl (by decide) ?_
    refine q_callv (M2 := mi_X_refuse) (pc2 := 17) d_X_feed_14 rfl k_X_75 cm_X_refuse cv_X_refuse (sh_0 hS) (by decide) rfl rfl rfl (Nat.le_of_ble_eq_true rfl) (c_X_refuse_0 (J := J) hS hR) (d2 := d - 1) (by omega) (Nat.le_of_eq (Nat.zero_add _)) (Nat.le_of_eq (Nat.zero_add _)) ?_
    obtain ⟨I2, hI2⟩ : ∃ x, x = u2 J 744 0 (J 744 0 + nI 1) := ⟨_, rfl⟩
    rw [← hI2]
    refine Run.ret (some (.int ((-32 : Int32)))) d_X_feed_17 ⟨_, rfl⟩ ?_
    exact XD.bad hS 0 (by (try simp only [et, Int.toNat_natCast] at c1); (unfold o_feed); (try dsimp only); (try simp only [et, Int.toNat_natCast]); (repeat (first | rw [if_pos (by omega)] | rw [if_neg (by omega)])); (try rfl); (all_goals first | rfl | (congr 2 <;> omega) | ((repeat' split) <;> first | rfl | (exfalso; omega) | (congr 2 <;> omega) | skip))) (by decide) FrXR.rf FrX.rf hI2
  · refine r_iload_n (pc2 := 5) d_X_feed_4 rfl rfl ?_
    refine r_sipush (v := nI 255) (pc2 := 8) d_X_feed_5 rfl (by decide) ?_
    refine q_icmp_le (tgt := 18) (A := v.toInt) (B := (255 : Int)) (pc2 := 11) d_X_feed_8 rfl rfl (rfl) (nI_toInt (by omega)) (fun c3 => ?_) (fun c3 => ?_)
    · refine r_aload_n (x := some 0) (pc2 := 19) d_X_feed_18 rfl rfl ?_
      refine q_getI (x := nI t) (pc2 := 22) d_X_feed_19 rfl k_X_49 (by decide) (sh_0 hS) hT ?_
      refine r_sipush (v := nI 250) (pc2 := 25) d_X_feed_22 rfl (by decide) ?_
      refine q_icmp_lt (tgt := 35) (A := ((t : Nat) : Int)) (B := (250 : Int)) (pc2 := 28) d_X_feed_25 rfl rfl (nI_toInt (by omega)) (nI_toInt (by omega)) (fun c4 => ?_) (fun c4 => ?_)
      · refine r_aload_n (x := some 0) (pc2 := 36) d_X_feed_35 rfl rfl ?_
        refine q_getR (x := some 730) (pc2 := 39) d_X_feed_36 rfl k_X_46 rfl (sh_0 hS) (rf_0_8 hR) ?_
        refine r_aload_n (x := some 0) (pc2 := 40) d_X_feed_39 rfl rfl ?_
        refine q_getI (x := nI t) (pc2 := 43) d_X_feed_40 rfl k_X_49 (by decide) (sh_0 hS) hT ?_
        refine r_iload_n (pc2 := 44) d_X_feed_43 rfl rfl ?_
        refine q_iastore (q := t) (pc2 := 45) d_X_feed_44 rfl (sh_730 hS) (nI_toInt (by omega)) (by omega) (fun I5 hI5 => ?_)
        refine r_aload_n (x := some 0) (pc2 := 46) d_X_feed_45 rfl rfl ?_
        refine r_dup (pc2 := 47) d_X_feed_46 rfl rfl ?_
        refine q_getI (x := nI t) (pc2 := 50) d_X_feed_47 rfl k_X_49 (by decide) (sh_0 hS) ((rd_ne hI5 (by decide)).trans (hT)) ?_
        refine r_iconst (v := nI 1) (pc2 := 51) d_X_feed_50 rfl (by decide) ?_
        refine q_iaddN (pc2 := 52) d_X_feed_51 rfl ?_
        refine q_putI (pc2 := 55) d_X_feed_52 rfl k_X_49 (Or.inl rfl) (sh_0 hS) (Or.inl rfl) (fun I6 hI6 => ?_)
        refine r_aload_n (x := some 0) (pc2 := 56) d_X_feed_55 rfl rfl ?_
        refine q_getI (x := nI (t + 1)) (pc2 := 59) d_X_feed_56 rfl k_X_49 (by decide) (sh_0 hS) (rd_eq hI6) ?_
        refine Run.ret (some (.int (nI (t + 1)))) d_X_feed_59 ⟨_, rfl⟩ ?_
        refine XD.val (v := nI (t + 1)) ?_ ⟨rfl, _, hI5, hI6⟩
        unfold o_feed; rw [if_pos (by omega), if_neg (by rw [nI_toInt (by omega)]; omega)]; exact congrArg _ (eq_nI (by rw [Int32.toInt_add, nI_toInt (by omega), nI_toInt (by omega), Int.bmod_eq_of_le (by omega) (by omega)]; omega))
      · refine r_aload_n (x := some 0) (pc2 := 29) d_X_feed_28 rfl rfl ?_
        refine r_bipush (v := (-36 : Int32)) (pc2 := 31) d_X_feed_29 rfl (by decide) ?_
        refine q_callv (M2 := mi_X_refuse) (pc2 := 34) d_X_feed_31 rfl k_X_75 cm_X_refuse cv_X_refuse (sh_0 hS) (by decide) rfl rfl rfl (Nat.le_of_ble_eq_true rfl) (c_X_refuse_4 (J := J) hS hR) (d2 := d - 1) (by omega) (Nat.le_of_eq (Nat.zero_add _)) (Nat.le_of_eq (Nat.zero_add _)) ?_
        obtain ⟨I7, hI7⟩ : ∃ x, x = u2 J 744 4 (J 744 4 + nI 1) := ⟨_, rfl⟩
        rw [← hI7]
        refine Run.ret (some (.int ((-36 : Int32)))) d_X_feed_34 ⟨_, rfl⟩ ?_
        exact XD.bad hS 4 (by (try simp only [et, Int.toNat_natCast] at c1 c3 c4); (unfold o_feed); (try dsimp only); (try simp only [et, Int.toNat_natCast]); (repeat (first | rw [if_pos (by omega)] | rw [if_neg (by omega)])); (try rfl); (all_goals first | rfl | (congr 2 <;> omega) | ((repeat' split) <;> first | rfl | (exfalso; omega) | (congr 2 <;> omega) | skip))) (by decide) FrXR.rf FrX.rf hI7
    · refine r_aload_n (x := some 0) (pc2 := 12) d_X_feed_11 rfl rfl ?_
      refine r_bipush (v := (-32 : Int32)) (pc2 := 14) d_X_feed_12 rfl (by decide) ?_
      refine q_callv (M2 := mi_X_refuse) (pc2 := 17) d_X_feed_14 rfl k_X_75 cm_X_refuse cv_X_refuse (sh_0 hS) (by decide) rfl rfl rfl (Nat.le_of_ble_eq_true rfl) (c_X_refuse_0 (J := J) hS hR) (d2 := d - 1) (by omega) (Nat.le_of_eq (Nat.zero_add _)) (Nat.le_of_eq (Nat.zero_add _)) ?_
      obtain ⟨I8, hI8⟩ : ∃ x, x = u2 J 744 0 (J 744 0 + nI 1) := ⟨_, rfl⟩
      rw [← hI8]
      refine Run.ret (some (.int ((-32 : Int32)))) d_X_feed_17 ⟨_, rfl⟩ ?_
      exact XD.bad hS 0 (by (try simp only [et, Int.toNat_natCast] at c1 c3); (unfold o_feed); (try dsimp only); (try simp only [et, Int.toNat_natCast]); (repeat (first | rw [if_pos (by omega)] | rw [if_neg (by omega)])); (try rfl); (all_goals first | rfl | (congr 2 <;> omega) | ((repeat' split) <;> first | rfl | (exfalso; omega) | (congr 2 <;> omega) | skip))) (by decide) FrXR.rf FrX.rf hI8
theorem c_X_wipe {d : Nat} {J : Nat → Nat → Int32} {R : Nat → Nat → Option Nat} {L : Nat → Nat → Int64} {sh : Nat → Nat × Nat} {N : Nat} (hS : ShOK sh) (hR : RfOK R) : Mt mi_X_wipe d 0 0 [.ref 0] (J, R, L, sh, N) (XD J R L sh N (o_wipe (J 0 9)) (fun K R' => R' = R ∧ K = u2 J 0 9 (nI 0))) := by
  refine Mt.of pn_X (Nat.le_of_ble_eq_true rfl) ?_
  show Run mi_X_wipe d 0 0 0 [(0, .ref 0)] [] (J, R, L, sh, N) _
  refine r_aload_n (x := some 0) (pc2 := 1) d_X_wipe_0 rfl rfl ?_
  refine q_getI (x := J 0 9) (pc2 := 4) d_X_wipe_1 rfl k_X_49 (by decide) (sh_0 hS) rfl ?_
  refine r_istore_n (pc2 := 5) d_X_wipe_4 rfl rfl (Nat.le_of_ble_eq_true rfl) ?_
  refine r_aload_n (x := some 0) (pc2 := 6) d_X_wipe_5 rfl rfl ?_
  refine r_iconst (v := nI 0) (pc2 := 7) d_X_wipe_6 rfl (by decide) ?_
  refine q_putI (pc2 := 10) d_X_wipe_7 rfl k_X_49 (Or.inl rfl) (sh_0 hS) (Or.inl rfl) (fun I1 hI1 => ?_)
  refine r_iload_n (pc2 := 11) d_X_wipe_10 rfl rfl ?_
  refine Run.ret (some (.int (J 0 9))) d_X_wipe_11 ⟨_, rfl⟩ ?_
  exact XD.val rfl ⟨rfl, hI1⟩
