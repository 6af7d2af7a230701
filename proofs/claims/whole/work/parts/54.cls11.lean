/-! THE CLASS: tell, free, seed, part -/
theorem c_X_ruleAt {d : Nat} {I : Nat → Nat → Int32} {R : Nat → Nat → Option Nat} {L : Nat → Nat → Int64} {sh : Nat → Nat × Nat} {N : Nat} (hS : ShOK sh) (hR : RfOK R) {F r : Nat} (hF : F < 12) (hr : r < 6) : Me mi_X_ruleAt d 0 0 [.ref 0, .int (nI F), .int (nI r)] (I, R, L, sh, N) (some (.ref (ru 0 F r))) (I, R, L, sh, N) := by
  refine Mt.of pn_X (Nat.le_of_ble_eq_true rfl) ?_
  show Run mi_X_ruleAt d 0 0 0 [(0, .ref 0), (1, .int (nI F)), (2, .int (nI r))] [] (I, R, L, sh, N) _
  refine r_aload_n (x := some 0) (pc2 := 1) d_X_ruleAt_0 rfl rfl ?_
  refine q_getR (x := some 1) (pc2 := 4) d_X_ruleAt_1 rfl k_X_12 rfl (sh_0 hS) (rf_0_0 hR) ?_
  refine q_getR (x := some 5) (pc2 := 7) d_X_ruleAt_4 rfl k_X_211 rfl (sh_1 hS) (rf_1_1 hR) ?_
  refine r_iload_n (pc2 := 8) d_X_ruleAt_7 rfl rfl ?_
  refine q_aaload (q := F) (x := some (fe 0 F)) (pc2 := 9) d_X_ruleAt_8 rfl (sh_5 hS) (by decide) (by decide) (nI_toInt (by omega)) (by omega) (rf_fe hR (show 0 < 3 by decide) (show F < 12 by omega)) ?_
  refine q_getR (x := some (fe 0 F + 1)) (pc2 := 12) d_X_ruleAt_9 rfl k_X_239 rfl (sh_fe0 hS (show 0 < 3 by decide) (show F < 12 by omega)) (rf_fe_4 hR (show 0 < 3 by decide) hF) ?_
  refine r_iload_n (pc2 := 13) d_X_ruleAt_12 rfl rfl ?_
  refine q_aaload (q := r) (x := some (ru 0 F r)) (pc2 := 14) d_X_ruleAt_13 rfl (sh_fe1 hS (show 0 < 3 by decide) hF) (by decide) (by decide) (nI_toInt (by omega)) (by omega) (rf_ru hR (show 0 < 3 by decide) hF hr) ?_
  refine Run.ret (some (rv (some (ru 0 F r)))) d_X_ruleAt_14 ⟨_, rfl⟩ ?_
  exact ⟨rfl, rfl⟩
theorem c_X_tell {d : Nat} {I : Nat → Nat → Int32} {R : Nat → Nat → Option Nat} {L : Nat → Nat → Int64} {sh : Nat → Nat × Nat} {N : Nat} (hS : ShOK sh) (hR : RfOK R) {tK tF tC tS : Nat → Int32} {nt : Nat} (hV : TV tK tF tC nt) (hV2 : TV2 tK tF tC tS nt) (hnt6 : nt ≤ 1000000) {G : Nat → Int32} {nP nF nS : Nat} (hW : WFA G nP nF nt) (hWT : WFT G nF nS) (hKW : WFK G nP nF) {rk : Nat → Nat} (hrk : RK G nF rk) (hD : DR tK tF tC tS I R sh nt 0 G nP nF nS) {f : Int32} {k : Int32} {v : Int32} (hd : 90 ≤ d) : Mt mi_X_tell d 0 0 [.ref 0, .int f, .int k, .int v] (I, R, L, sh, N) (XD I R L sh N (o_tell G nF f k v) (PD tK tF tC tS I R sh nt (g_tell G nF f k v) nP nF nS)) := by
  obtain ⟨hPc, hP24, hFc, hF12, hWF, hWP⟩ := id hW
  have hS24 := hWT.2.1
  refine Mt.of pn_X (Nat.le_of_ble_eq_true rfl) ?_
  show Run mi_X_tell d 0 0 0 [(0, .ref 0), (1, .int f), (2, .int k), (3, .int v)] [] (I, R, L, sh, N) _
  refine r_aload_n (x := some 0) (pc2 := 1) d_X_tell_0 rfl rfl ?_
  refine r_iload_n (pc2 := 2) d_X_tell_1 rfl rfl ?_
  refine q_callv (M2 := mi_X_isFeature) (pc2 := 5) d_X_tell_2 rfl k_X_220 cm_X_isFeature cv_X_isFeature (sh_0 hS) (by decide) rfl rfl rfl (Nat.le_of_ble_eq_true rfl) (c_X_isFeature (f := f) hS hR hV hV2 hnt6 hW hWT hKW hrk hD) (d2 := d - 1) (by omega) (Nat.le_of_eq (Nat.zero_add _)) (Nat.le_of_eq (Nat.zero_add _)) ?_
  refine q_bif_eq (tgt := 17) (pc2 := 8) d_X_tell_5 rfl rfl (fun c1 => ?_) (fun c1 => ?_)
  · refine r_aload_n (x := some 0) (pc2 := 18) d_X_tell_17 rfl rfl ?_
    refine r_bipush (v := (-32 : Int32)) (pc2 := 20) d_X_tell_18 rfl (by decide) ?_
    refine q_callv (M2 := mi_X_refuse) (pc2 := 23) d_X_tell_20 rfl k_X_75 cm_X_refuse cv_X_refuse (sh_0 hS) (by decide) rfl rfl rfl (Nat.le_of_ble_eq_true rfl) (c_X_refuse_0 (J := I) hS hR) (d2 := d - 1) (by omega) (Nat.le_of_eq (Nat.zero_add _)) (Nat.le_of_eq (Nat.zero_add _)) ?_
    obtain ⟨I2, hI2⟩ : ∃ x, x = u2 I 744 0 (I 744 0 + nI 1) := ⟨_, rfl⟩
    rw [← hI2]
    refine Run.ret (some (.int ((-32 : Int32)))) d_X_tell_23 ⟨_, rfl⟩ ?_
    first | (exfalso; omega) | exact XD.bad hS 0 (by (unfold o_tell); (try dsimp only); (try simp only [Int.toNat_natCast]); (repeat (first | rw [if_pos (by omega)] | rw [if_neg (by omega)])); (try rfl); (all_goals first | rfl | (congr 2 <;> omega) | ((repeat' split) <;> first | rfl | (exfalso; omega) | (congr 2 <;> omega) | skip))) (by decide) FrXR.rf FrX.rf hI2
  · obtain ⟨fN, hfN, rfl, efN⟩ := nat_of c1
    obtain ⟨tpfN, klfN, skfN, fbfN, nRfN, nNfN, nOfN, frfN, tofN, ⟨a0fN, b0fN, cc0fN, dd0fN⟩, ⟨a1fN, b1fN, cc1fN, dd1fN⟩, ⟨a2fN, b2fN, cc2fN, dd2fN⟩, ⟨a3fN, b3fN, cc3fN, dd3fN⟩, ⟨a4fN, b4fN, cc4fN, dd4fN⟩, ⟨a5fN, b5fN, cc5fN, dd5fN⟩, ⟨a6fN, b6fN, cc6fN, dd6fN⟩, ⟨a8fN, b8fN, cc8fN, dd8fN⟩, ⟨a9fN, b9fN, cc9fN, dd9fN⟩⟩ := wfn (hWF fN (by omega))
    obtain ⟨-, -, -, -, -, -, -, w7fN, -, -, wNfN, wRfN, wKfN, wOfN⟩ := hWF fN (by omega)
    obtain ⟨⟨x0fN, x1fN, x2fN, x3fN, x4fN, x5fN, x6fN, x7fN, x8fN⟩, xnfN, xofN, xkfN, xcfN, xrfN⟩ := hD.2.2.2.1 fN (by omega)
    have hflfN := fe_lt (e := 0) (by decide) (show fN < 12 by omega)
    unfold dk at hflfN
    refine r_iload_n (pc2 := 9) d_X_tell_8 rfl rfl ?_
    refine q_if_lt (tgt := 17) (A := k.toInt) (pc2 := 12) d_X_tell_9 rfl rfl (rfl) (fun c3 => ?_) (fun c3 => ?_)
    · refine r_aload_n (x := some 0) (pc2 := 18) d_X_tell_17 rfl rfl ?_
      refine r_bipush (v := (-32 : Int32)) (pc2 := 20) d_X_tell_18 rfl (by decide) ?_
      refine q_callv (M2 := mi_X_refuse) (pc2 := 23) d_X_tell_20 rfl k_X_75 cm_X_refuse cv_X_refuse (sh_0 hS) (by decide) rfl rfl rfl (Nat.le_of_ble_eq_true rfl) (c_X_refuse_0 (J := I) hS hR) (d2 := d - 1) (by omega) (Nat.le_of_eq (Nat.zero_add _)) (Nat.le_of_eq (Nat.zero_add _)) ?_
      obtain ⟨I4, hI4⟩ : ∃ x, x = u2 I 744 0 (I 744 0 + nI 1) := ⟨_, rfl⟩
      rw [← hI4]
      refine Run.ret (some (.int ((-32 : Int32)))) d_X_tell_23 ⟨_, rfl⟩ ?_
      first | (exfalso; omega) | exact XD.bad hS 0 (by (try simp only [efN, b0fN, b1fN, b2fN, b3fN, b4fN, b5fN, b6fN, b8fN, b9fN, Int.toNat_natCast] at c1 c3); (unfold o_tell); (try dsimp only); (try simp only [efN, b0fN, b1fN, b2fN, b3fN, b4fN, b5fN, b6fN, b8fN, b9fN, Int.toNat_natCast]); (repeat (first | rw [if_pos (by omega)] | rw [if_neg (by omega)])); (try rfl); (all_goals first | rfl | (simp only [a0fN, a1fN, a2fN, a3fN, a4fN, a5fN, a6fN, a8fN, a9fN]; done) | (congr 2 <;> omega) | ((repeat' split) <;> first | rfl | (simp only [a0fN, a1fN, a2fN, a3fN, a4fN, a5fN, a6fN, a8fN, a9fN]; done) | (exfalso; omega) | (congr 2 <;> omega) | skip))) (by decide) FrXR.rf FrX.rf hI4
    · refine r_iload_n (pc2 := 13) d_X_tell_12 rfl rfl ?_
      refine r_iconst (v := nI 2) (pc2 := 14) d_X_tell_13 rfl (by decide) ?_
      refine q_icmp_le (tgt := 24) (A := k.toInt) (B := (2 : Int)) (pc2 := 17) d_X_tell_14 rfl rfl (rfl) (nI_toInt (by omega)) (fun c5 => ?_) (fun c5 => ?_)
      · refine r_aload_n (x := some 0) (pc2 := 25) d_X_tell_24 rfl rfl ?_
        refine q_getR (x := some 1) (pc2 := 28) d_X_tell_25 rfl k_X_12 rfl (sh_0 hS) (rf_0_0 hR) ?_
        refine q_getR (x := some 5) (pc2 := 31) d_X_tell_28 rfl k_X_211 rfl (sh_1 hS) (rf_1_1 hR) ?_
        refine r_iload_n (pc2 := 32) d_X_tell_31 rfl rfl ?_
        refine q_aaload (q := fN) (x := some (fe 0 fN)) (pc2 := 33) d_X_tell_32 rfl (sh_5 hS) (by decide) (by decide) (nI_toInt (by omega)) (by omega) (rf_fe hR (show 0 < 3 by decide) (show fN < 12 by omega)) ?_
        refine r_astore (x := some (fe 0 fN)) (pc2 := 35) d_X_tell_33 rfl (Nat.le_of_ble_eq_true rfl) ?_
        refine r_iload_n (pc2 := 36) d_X_tell_35 rfl rfl ?_
        refine r_iconst (v := nI 2) (pc2 := 37) d_X_tell_36 rfl (by decide) ?_
        refine q_icmp_ne (tgt := 48) (A := k.toInt) (B := (2 : Int)) (pc2 := 40) d_X_tell_37 rfl rfl (rfl) (nI_toInt (by omega)) (fun c6 => ?_) (fun c6 => ?_)
        · refine r_iconst (v := nI 1) (pc2 := 49) d_X_tell_48 rfl (by decide) ?_
          refine r_istore (pc2 := 51) d_X_tell_49 rfl (Nat.le_of_ble_eq_true rfl) ?_
          refine r_iload_n (pc2 := 52) d_X_tell_51 rfl rfl ?_
          refine q_if_lt (tgt := 61) (A := v.toInt) (pc2 := 55) d_X_tell_52 rfl rfl (rfl) (fun c7 => ?_) (fun c7 => ?_)
          · refine r_aload_n (x := some 0) (pc2 := 62) d_X_tell_61 rfl rfl ?_
            refine r_bipush (v := (-32 : Int32)) (pc2 := 64) d_X_tell_62 rfl (by decide) ?_
            refine q_callv (M2 := mi_X_refuse) (pc2 := 67) d_X_tell_64 rfl k_X_75 cm_X_refuse cv_X_refuse (sh_0 hS) (by decide) rfl rfl rfl (Nat.le_of_ble_eq_true rfl) (c_X_refuse_0 (J := I) hS hR) (d2 := d - 1) (by omega) (Nat.le_of_eq (Nat.zero_add _)) (Nat.le_of_eq (Nat.zero_add _)) ?_
            obtain ⟨I8, hI8⟩ : ∃ x, x = u2 I 744 0 (I 744 0 + nI 1) := ⟨_, rfl⟩
            rw [← hI8]
            refine Run.ret (some (.int ((-32 : Int32)))) d_X_tell_67 ⟨_, rfl⟩ ?_
            first | (exfalso; omega) | exact XD.bad hS 0 (by (try simp only [efN, b0fN, b1fN, b2fN, b3fN, b4fN, b5fN, b6fN, b8fN, b9fN, Int.toNat_natCast] at c1 c3 c5 c6 c7); (unfold o_tell); (try dsimp only); (try simp only [efN, b0fN, b1fN, b2fN, b3fN, b4fN, b5fN, b6fN, b8fN, b9fN, Int.toNat_natCast]); (repeat (first | rw [if_pos (by omega)] | rw [if_neg (by omega)])); (try rfl); (all_goals first | rfl | (simp only [a0fN, a1fN, a2fN, a3fN, a4fN, a5fN, a6fN, a8fN, a9fN]; done) | (congr 2 <;> omega) | ((repeat' split) <;> first | rfl | (simp only [a0fN, a1fN, a2fN, a3fN, a4fN, a5fN, a6fN, a8fN, a9fN]; done) | (exfalso; omega) | (congr 2 <;> omega) | skip))) (by decide) FrXR.rf FrX.rf hI8
          · refine r_iload_n (pc2 := 56) d_X_tell_55 rfl rfl ?_
            refine r_iload (pc2 := 58) d_X_tell_56 rfl rfl ?_
            refine q_icmp_le (tgt := 68) (A := v.toInt) (B := (1 : Int)) (pc2 := 61) d_X_tell_58 rfl rfl (rfl) (nI_toInt (by omega)) (fun c9 => ?_) (fun c9 => ?_)
            · refine r_iload_n (pc2 := 69) d_X_tell_68 rfl rfl ?_
              refine q_if_ne (tgt := 88) (A := k.toInt) (pc2 := 72) d_X_tell_69 rfl rfl (rfl) (fun c10 => ?_) (fun c10 => ?_)
              · refine r_iload_n (pc2 := 89) d_X_tell_88 rfl rfl ?_
                refine r_iconst (v := nI 1) (pc2 := 90) d_X_tell_89 rfl (by decide) ?_
                refine q_icmp_ne (tgt := 109) (A := k.toInt) (B := (1 : Int)) (pc2 := 93) d_X_tell_90 rfl rfl (rfl) (nI_toInt (by omega)) (fun c11 => ?_) (fun c11 => ?_)
                · obtain rfl : k = nI 2 := eq_nI (by omega)
                  have ek0 : (nI 2).toInt = ((2 : Nat) : Int) := rfl
                  refine r_aload (x := some (fe 0 fN)) (pc2 := 111) d_X_tell_109 rfl rfl ?_
                  refine q_getI (x := nI fbfN) (pc2 := 114) d_X_tell_111 rfl k_X_229 (by decide) (sh_fe0 hS (show 0 < 3 by decide) (show fN < 12 by omega)) (x3fN.trans a3fN) ?_
                  refine r_istore (pc2 := 116) d_X_tell_114 rfl (Nat.le_of_ble_eq_true rfl) ?_
                  refine r_aload (x := some (fe 0 fN)) (pc2 := 118) d_X_tell_116 rfl rfl ?_
                  refine r_iload_n (pc2 := 119) d_X_tell_118 rfl rfl ?_
                  refine q_putI (pc2 := 122) d_X_tell_119 rfl k_X_229 (Or.inl rfl) (sh_fe0 hS (show 0 < 3 by decide) (show fN < 12 by omega)) (Or.inl rfl) (fun I12 hI12 => ?_)
                  refine r_iload (pc2 := 124) d_X_tell_122 rfl rfl ?_
                  refine Run.ret (some (.int (nI fbfN))) d_X_tell_124 ⟨_, rfl⟩ ?_
                  first | (exfalso; omega) | exact XD.val (by (try simp only [efN, b0fN, b1fN, b2fN, b3fN, b4fN, b5fN, b6fN, b8fN, b9fN, ek0, Nat.reduceAdd, Int.toNat_natCast] at c1 c3 c5 c6 c7 c9 c10 c11); (unfold o_tell); (try dsimp only); (try simp only [efN, b0fN, b1fN, b2fN, b3fN, b4fN, b5fN, b6fN, b8fN, b9fN, ek0, Nat.reduceAdd, Int.toNat_natCast]); (repeat (first | rw [if_pos (by omega)] | rw [if_neg (by omega)])); (try rfl); (all_goals first | rfl | (simp only [a0fN, a1fN, a2fN, a3fN, a4fN, a5fN, a6fN, a8fN, a9fN]; done) | (congr 2 <;> omega) | ((repeat' split) <;> first | rfl | (simp only [a0fN, a1fN, a2fN, a3fN, a4fN, a5fN, a6fN, a8fN, a9fN]; done) | (exfalso; omega) | (congr 2 <;> omega) | skip))) ⟨(FrD.rf.put hI12 (Or.inl (by first | omega | (unfold ru; omega)))), FrRD.rf, by (try simp only [efN, b0fN, b1fN, b2fN, b3fN, b4fN, b5fN, b6fN, b8fN, b9fN, ek0, Nat.reduceAdd, Int.toNat_natCast] at c1 c3 c5 c6 c7 c9 c10 c11); (unfold g_tell); (try dsimp only); (try simp only [efN, b0fN, b1fN, b2fN, b3fN, b4fN, b5fN, b6fN, b8fN, b9fN, ek0, Nat.reduceAdd, Int.toNat_natCast]); (repeat (first | rw [if_pos (by omega)] | rw [if_neg (by omega)])); exact DR.f1 hW hWT (E := fN) (by omega) hD (fun a j q => rd_ne hI12 (by omega)) (fun j hj => u1_o (by omega)) (FR.s3 (by decide) (by omega) hP24 (hWF fN (by omega)) (hD.2.2.2.1 fN (by omega)) hI12)⟩
                · obtain rfl : k = nI 1 := eq_nI (by omega)
                  have ek0 : (nI 1).toInt = ((1 : Nat) : Int) := rfl
                  refine r_aload (x := some (fe 0 fN)) (pc2 := 95) d_X_tell_93 rfl rfl ?_
                  refine q_getI (x := nI skfN) (pc2 := 98) d_X_tell_95 rfl k_X_226 (by decide) (sh_fe0 hS (show 0 < 3 by decide) (show fN < 12 by omega)) (x2fN.trans a2fN) ?_
                  refine r_istore (pc2 := 100) d_X_tell_98 rfl (Nat.le_of_ble_eq_true rfl) ?_
                  refine r_aload (x := some (fe 0 fN)) (pc2 := 102) d_X_tell_100 rfl rfl ?_
                  refine r_iload_n (pc2 := 103) d_X_tell_102 rfl rfl ?_
                  refine q_putI (pc2 := 106) d_X_tell_103 rfl k_X_226 (Or.inl rfl) (sh_fe0 hS (show 0 < 3 by decide) (show fN < 12 by omega)) (Or.inl rfl) (fun I13 hI13 => ?_)
                  refine r_goto (tgt := 122) d_X_tell_106 rfl ?_
                  refine r_iload (pc2 := 124) d_X_tell_122 rfl rfl ?_
                  refine Run.ret (some (.int (nI skfN))) d_X_tell_124 ⟨_, rfl⟩ ?_
                  first | (exfalso; omega) | exact XD.val (by (try simp only [efN, b0fN, b1fN, b2fN, b3fN, b4fN, b5fN, b6fN, b8fN, b9fN, ek0, Nat.reduceAdd, Int.toNat_natCast] at c1 c3 c5 c6 c7 c9 c10 c11); (unfold o_tell); (try dsimp only); (try simp only [efN, b0fN, b1fN, b2fN, b3fN, b4fN, b5fN, b6fN, b8fN, b9fN, ek0, Nat.reduceAdd, Int.toNat_natCast]); (repeat (first | rw [if_pos (by omega)] | rw [if_neg (by omega)])); (try rfl); (all_goals first | rfl | (simp only [a0fN, a1fN, a2fN, a3fN, a4fN, a5fN, a6fN, a8fN, a9fN]; done) | (congr 2 <;> omega) | ((repeat' split) <;> first | rfl | (simp only [a0fN, a1fN, a2fN, a3fN, a4fN, a5fN, a6fN, a8fN, a9fN]; done) | (exfalso; omega) | (congr 2 <;> omega) | skip))) ⟨(FrD.rf.put hI13 (Or.inl (by first | omega | (unfold ru; omega)))), FrRD.rf, by (try simp only [efN, b0fN, b1fN, b2fN, b3fN, b4fN, b5fN, b6fN, b8fN, b9fN, ek0, Nat.reduceAdd, Int.toNat_natCast] at c1 c3 c5 c6 c7 c9 c10 c11); (unfold g_tell); (try dsimp only); (try simp only [efN, b0fN, b1fN, b2fN, b3fN, b4fN, b5fN, b6fN, b8fN, b9fN, ek0, Nat.reduceAdd, Int.toNat_natCast]); (repeat (first | rw [if_pos (by omega)] | rw [if_neg (by omega)])); exact DR.f1 hW hWT (E := fN) (by omega) hD (fun a j q => rd_ne hI13 (by omega)) (fun j hj => u1_o (by omega)) (FR.s2 (by decide) (by omega) hP24 (hWF fN (by omega)) (hD.2.2.2.1 fN (by omega)) hI13)⟩
              · obtain rfl : k = nI 0 := eq_nI (by omega)
                have ek0 : (nI 0).toInt = ((0 : Nat) : Int) := rfl
                refine r_aload (x := some (fe 0 fN)) (pc2 := 74) d_X_tell_72 rfl rfl ?_
                refine q_getI (x := nI klfN) (pc2 := 77) d_X_tell_74 rfl k_X_223 (by decide) (sh_fe0 hS (show 0 < 3 by decide) (show fN < 12 by omega)) (x1fN.trans a1fN) ?_
                refine r_istore (pc2 := 79) d_X_tell_77 rfl (Nat.le_of_ble_eq_true rfl) ?_
                refine r_aload (x := some (fe 0 fN)) (pc2 := 81) d_X_tell_79 rfl rfl ?_
                refine r_iload_n (pc2 := 82) d_X_tell_81 rfl rfl ?_
                refine q_putI (pc2 := 85) d_X_tell_82 rfl k_X_223 (Or.inl rfl) (sh_fe0 hS (show 0 < 3 by decide) (show fN < 12 by omega)) (Or.inl rfl) (fun I14 hI14 => ?_)
                refine r_goto (tgt := 122) d_X_tell_85 rfl ?_
                refine r_iload (pc2 := 124) d_X_tell_122 rfl rfl ?_
                refine Run.ret (some (.int (nI klfN))) d_X_tell_124 ⟨_, rfl⟩ ?_
                first | (exfalso; omega) | exact XD.val (by (try simp only [efN, b0fN, b1fN, b2fN, b3fN, b4fN, b5fN, b6fN, b8fN, b9fN, ek0, Nat.reduceAdd, Int.toNat_natCast] at c1 c3 c5 c6 c7 c9 c10); (unfold o_tell); (try dsimp only); (try simp only [efN, b0fN, b1fN, b2fN, b3fN, b4fN, b5fN, b6fN, b8fN, b9fN, ek0, Nat.reduceAdd, Int.toNat_natCast]); (repeat (first | rw [if_pos (by omega)] | rw [if_neg (by omega)])); (try rfl); (all_goals first | rfl | (simp only [a0fN, a1fN, a2fN, a3fN, a4fN, a5fN, a6fN, a8fN, a9fN]; done) | (congr 2 <;> omega) | ((repeat' split) <;> first | rfl | (simp only [a0fN, a1fN, a2fN, a3fN, a4fN, a5fN, a6fN, a8fN, a9fN]; done) | (exfalso; omega) | (congr 2 <;> omega) | skip))) ⟨(FrD.rf.put hI14 (Or.inl (by first | omega | (unfold ru; omega)))), FrRD.rf, by (try simp only [efN, b0fN, b1fN, b2fN, b3fN, b4fN, b5fN, b6fN, b8fN, b9fN, ek0, Nat.reduceAdd, Int.toNat_natCast] at c1 c3 c5 c6 c7 c9 c10); (unfold g_tell); (try dsimp only); (try simp only [efN, b0fN, b1fN, b2fN, b3fN, b4fN, b5fN, b6fN, b8fN, b9fN, ek0, Nat.reduceAdd, Int.toNat_natCast]); (repeat (first | rw [if_pos (by omega)] | rw [if_neg (by omega)])); exact DR.f1 hW hWT (E := fN) (by omega) hD (fun a j q => rd_ne hI14 (by omega)) (fun j hj => u1_o (by omega)) (FR.s1 (by decide) (by omega) hP24 (hWF fN (by omega)) (hD.2.2.2.1 fN (by omega)) hI14)⟩
            · refine r_aload_n (x := some 0) (pc2 := 62) d_X_tell_61 rfl rfl ?_
              refine r_bipush (v := (-32 : Int32)) (pc2 := 64) d_X_tell_62 rfl (by decide) ?_
              refine q_callv (M2 := mi_X_refuse) (pc2 := 67) d_X_tell_64 rfl k_X_75 cm_X_refuse cv_X_refuse (sh_0 hS) (by decide) rfl rfl rfl (Nat.le_of_ble_eq_true rfl) (c_X_refuse_0 (J := I) hS hR) (d2 := d - 1) (by omega) (Nat.le_of_eq (Nat.zero_add _)) (Nat.le_of_eq (Nat.zero_add _)) ?_
              obtain ⟨I15, hI15⟩ : ∃ x, x = u2 I 744 0 (I 744 0 + nI 1) := ⟨_, rfl⟩
              rw [← hI15]
              refine Run.ret (some (.int ((-32 : Int32)))) d_X_tell_67 ⟨_, rfl⟩ ?_
              first | (exfalso; omega) | exact XD.bad hS 0 (by (try simp only [efN, b0fN, b1fN, b2fN, b3fN, b4fN, b5fN, b6fN, b8fN, b9fN, Int.toNat_natCast] at c1 c3 c5 c6 c7 c9); (unfold o_tell); (try dsimp only); (try simp only [efN, b0fN, b1fN, b2fN, b3fN, b4fN, b5fN, b6fN, b8fN, b9fN, Int.toNat_natCast]); (repeat (first | rw [if_pos (by omega)] | rw [if_neg (by omega)])); (try rfl); (all_goals first | rfl | (simp only [a0fN, a1fN, a2fN, a3fN, a4fN, a5fN, a6fN, a8fN, a9fN]; done) | (congr 2 <;> omega) | ((repeat' split) <;> first | rfl | (simp only [a0fN, a1fN, a2fN, a3fN, a4fN, a5fN, a6fN, a8fN, a9fN]; done) | (exfalso; omega) | (congr 2 <;> omega) | skip))) (by decide) FrXR.rf FrX.rf hI15
        · refine r_aload (x := some (fe 0 fN)) (pc2 := 42) d_X_tell_40 rfl rfl ?_
          refine q_getI (x := nI tpfN) (pc2 := 45) d_X_tell_42 rfl k_X_215 (by decide) (sh_fe0 hS (show 0 < 3 by decide) (show fN < 12 by omega)) (x0fN.trans a0fN) ?_
          refine r_goto (tgt := 49) d_X_tell_45 rfl ?_
          refine r_istore (pc2 := 51) d_X_tell_49 rfl (Nat.le_of_ble_eq_true rfl) ?_
          refine r_iload_n (pc2 := 52) d_X_tell_51 rfl rfl ?_
          refine q_if_lt (tgt := 61) (A := v.toInt) (pc2 := 55) d_X_tell_52 rfl rfl (rfl) (fun c16 => ?_) (fun c16 => ?_)
          · refine r_aload_n (x := some 0) (pc2 := 62) d_X_tell_61 rfl rfl ?_
            refine r_bipush (v := (-32 : Int32)) (pc2 := 64) d_X_tell_62 rfl (by decide) ?_
            refine q_callv (M2 := mi_X_refuse) (pc2 := 67) d_X_tell_64 rfl k_X_75 cm_X_refuse cv_X_refuse (sh_0 hS) (by decide) rfl rfl rfl (Nat.le_of_ble_eq_true rfl) (c_X_refuse_0 (J := I) hS hR) (d2 := d - 1) (by omega) (Nat.le_of_eq (Nat.zero_add _)) (Nat.le_of_eq (Nat.zero_add _)) ?_
            obtain ⟨I17, hI17⟩ : ∃ x, x = u2 I 744 0 (I 744 0 + nI 1) := ⟨_, rfl⟩
            rw [← hI17]
            refine Run.ret (some (.int ((-32 : Int32)))) d_X_tell_67 ⟨_, rfl⟩ ?_
            first | (exfalso; omega) | exact XD.bad hS 0 (by (try simp only [efN, b0fN, b1fN, b2fN, b3fN, b4fN, b5fN, b6fN, b8fN, b9fN, Int.toNat_natCast] at c1 c3 c5 c6 c16); (unfold o_tell); (try dsimp only); (try simp only [efN, b0fN, b1fN, b2fN, b3fN, b4fN, b5fN, b6fN, b8fN, b9fN, Int.toNat_natCast]); (repeat (first | rw [if_pos (by omega)] | rw [if_neg (by omega)])); (try rfl); (all_goals first | rfl | (simp only [a0fN, a1fN, a2fN, a3fN, a4fN, a5fN, a6fN, a8fN, a9fN]; done) | (congr 2 <;> omega) | ((repeat' split) <;> first | rfl | (simp only [a0fN, a1fN, a2fN, a3fN, a4fN, a5fN, a6fN, a8fN, a9fN]; done) | (exfalso; omega) | (congr 2 <;> omega) | skip))) (by decide) FrXR.rf FrX.rf hI17
          · refine r_iload_n (pc2 := 56) d_X_tell_55 rfl rfl ?_
            refine r_iload (pc2 := 58) d_X_tell_56 rfl rfl ?_
            refine q_icmp_le (tgt := 68) (A := v.toInt) (B := ((tpfN : Nat) : Int)) (pc2 := 61) d_X_tell_58 rfl rfl (rfl) (nI_toInt (by omega)) (fun c18 => ?_) (fun c18 => ?_)
            · refine r_iload_n (pc2 := 69) d_X_tell_68 rfl rfl ?_
              refine q_if_ne (tgt := 88) (A := k.toInt) (pc2 := 72) d_X_tell_69 rfl rfl (rfl) (fun c19 => ?_) (fun c19 => ?_)
              · refine r_iload_n (pc2 := 89) d_X_tell_88 rfl rfl ?_
                refine r_iconst (v := nI 1) (pc2 := 90) d_X_tell_89 rfl (by decide) ?_
                refine q_icmp_ne (tgt := 109) (A := k.toInt) (B := (1 : Int)) (pc2 := 93) d_X_tell_90 rfl rfl (rfl) (nI_toInt (by omega)) (fun c20 => ?_) (fun c20 => ?_)
                · obtain rfl : k = nI 2 := eq_nI (by omega)
                  have ek0 : (nI 2).toInt = ((2 : Nat) : Int) := rfl
                  refine r_aload (x := some (fe 0 fN)) (pc2 := 111) d_X_tell_109 rfl rfl ?_
                  refine q_getI (x := nI fbfN) (pc2 := 114) d_X_tell_111 rfl k_X_229 (by decide) (sh_fe0 hS (show 0 < 3 by decide) (show fN < 12 by omega)) (x3fN.trans a3fN) ?_
                  refine r_istore (pc2 := 116) d_X_tell_114 rfl (Nat.le_of_ble_eq_true rfl) ?_
                  refine r_aload (x := some (fe 0 fN)) (pc2 := 118) d_X_tell_116 rfl rfl ?_
                  refine r_iload_n (pc2 := 119) d_X_tell_118 rfl rfl ?_
                  refine q_putI (pc2 := 122) d_X_tell_119 rfl k_X_229 (Or.inl rfl) (sh_fe0 hS (show 0 < 3 by decide) (show fN < 12 by omega)) (Or.inl rfl) (fun I21 hI21 => ?_)
                  refine r_iload (pc2 := 124) d_X_tell_122 rfl rfl ?_
                  refine Run.ret (some (.int (nI fbfN))) d_X_tell_124 ⟨_, rfl⟩ ?_
                  first | (exfalso; omega) | exact XD.val (by (try simp only [efN, b0fN, b1fN, b2fN, b3fN, b4fN, b5fN, b6fN, b8fN, b9fN, ek0, Nat.reduceAdd, Int.toNat_natCast] at c1 c3 c5 c6 c16 c18 c19 c20); (unfold o_tell); (try dsimp only); (try simp only [efN, b0fN, b1fN, b2fN, b3fN, b4fN, b5fN, b6fN, b8fN, b9fN, ek0, Nat.reduceAdd, Int.toNat_natCast]); (repeat (first | rw [if_pos (by omega)] | rw [if_neg (by omega)])); (try rfl); (all_goals first | rfl | (simp only [a0fN, a1fN, a2fN, a3fN, a4fN, a5fN, a6fN, a8fN, a9fN]; done) | (congr 2 <;> omega) | ((repeat' split) <;> first | rfl | (simp only [a0fN, a1fN, a2fN, a3fN, a4fN, a5fN, a6fN, a8fN, a9fN]; done) | (exfalso; omega) | (congr 2 <;> omega) | skip))) ⟨(FrD.rf.put hI21 (Or.inl (by first | omega | (unfold ru; omega)))), FrRD.rf, by (try simp only [efN, b0fN, b1fN, b2fN, b3fN, b4fN, b5fN, b6fN, b8fN, b9fN, ek0, Nat.reduceAdd, Int.toNat_natCast] at c1 c3 c5 c6 c16 c18 c19 c20); (unfold g_tell); (try dsimp only); (try simp only [efN, b0fN, b1fN, b2fN, b3fN, b4fN, b5fN, b6fN, b8fN, b9fN, ek0, Nat.reduceAdd, Int.toNat_natCast]); (repeat (first | rw [if_pos (by omega)] | rw [if_neg (by omega)])); exact DR.f1 hW hWT (E := fN) (by omega) hD (fun a j q => rd_ne hI21 (by omega)) (fun j hj => u1_o (by omega)) (FR.s3 (by decide) (by omega) hP24 (hWF fN (by omega)) (hD.2.2.2.1 fN (by omega)) hI21)⟩
                · obtain rfl : k = nI 1 := eq_nI (by omega)
                  have ek0 : (nI 1).toInt = ((1 : Nat) : Int) := rfl
                  refine r_aload (x := some (fe 0 fN)) (pc2 := 95) d_X_tell_93 rfl rfl ?_
                  refine q_getI (x := nI skfN) (pc2 := 98) d_X_tell_95 rfl k_X_226 (by decide) (sh_fe0 hS (show 0 < 3 by decide) (show fN < 12 by omega)) (x2fN.trans a2fN) ?_
                  refine r_istore (pc2 := 100) d_X_tell_98 rfl (Nat.le_of_ble_eq_true rfl) ?_
                  refine r_aload (x := some (fe 0 fN)) (pc2 := 102) d_X_tell_100 rfl rfl ?_
                  refine r_iload_n (pc2 := 103) d_X_tell_102 rfl rfl ?_
                  refine q_putI (pc2 := 106) d_X_tell_103 rfl k_X_226 (Or.inl rfl) (sh_fe0 hS (show 0 < 3 by decide) (show fN < 12 by omega)) (Or.inl rfl) (fun I22 hI22 => ?_)
                  refine r_goto (tgt := 122) d_X_tell_106 rfl ?_
                  refine r_iload (pc2 := 124) d_X_tell_122 rfl rfl ?_
                  refine Run.ret (some (.int (nI skfN))) d_X_tell_124 ⟨_, rfl⟩ ?_
                  first | (exfalso; omega) | exact XD.val (by (try simp only [efN, b0fN, b1fN, b2fN, b3fN, b4fN, b5fN, b6fN, b8fN, b9fN, ek0, Nat.reduceAdd, Int.toNat_natCast] at c1 c3 c5 c6 c16 c18 c19 c20); (unfold o_tell); (try dsimp only); (try simp only [efN, b0fN, b1fN, b2fN, b3fN, b4fN, b5fN, b6fN, b8fN, b9fN, ek0, Nat.reduceAdd, Int.toNat_natCast]); (repeat (first | rw [if_pos (by omega)] | rw [if_neg (by omega)])); (try rfl); (all_goals first | rfl | (simp only [a0fN, a1fN, a2fN, a3fN, a4fN, a5fN, a6fN, a8fN, a9fN]; done) | (congr 2 <;> omega) | ((repeat' split) <;> first | rfl | (simp only [a0fN, a1fN, a2fN, a3fN, a4fN, a5fN, a6fN, a8fN, a9fN]; done) | (exfalso; omega) | (congr 2 <;> omega) | skip))) ⟨(FrD.rf.put hI22 (Or.inl (by first | omega | (unfold ru; omega)))), FrRD.rf, by (try simp only [efN, b0fN, b1fN, b2fN, b3fN, b4fN, b5fN, b6fN, b8fN, b9fN, ek0, Nat.reduceAdd, Int.toNat_natCast] at c1 c3 c5 c6 c16 c18 c19 c20); (unfold g_tell); (try dsimp only); (try simp only [efN, b0fN, b1fN, b2fN, b3fN, b4fN, b5fN, b6fN, b8fN, b9fN, ek0, Nat.reduceAdd, Int.toNat_natCast]); (repeat (first | rw [if_pos (by omega)] | rw [if_neg (by omega)])); exact DR.f1 hW hWT (E := fN) (by omega) hD (fun a j q => rd_ne hI22 (by omega)) (fun j hj => u1_o (by omega)) (FR.s2 (by decide) (by omega) hP24 (hWF fN (by omega)) (hD.2.2.2.1 fN (by omega)) hI22)⟩
              · obtain rfl : k = nI 0 := eq_nI (by omega)
                have ek0 : (nI 0).toInt = ((0 : Nat) : Int) := rfl
                refine r_aload (x := some (fe 0 fN)) (pc2 := 74) d_X_tell_72 rfl rfl ?_
                refine q_getI (x := nI klfN) (pc2 := 77) d_X_tell_74 rfl k_X_223 (by decide) (sh_fe0 hS (show 0 < 3 by decide) (show fN < 12 by omega)) (x1fN.trans a1fN) ?_
                refine r_istore (pc2 := 79) d_X_tell_77 rfl (Nat.le_of_ble_eq_true rfl) ?_
                refine r_aload (x := some (fe 0 fN)) (pc2 := 81) d_X_tell_79 rfl rfl ?_
                refine r_iload_n (pc2 := 82) d_X_tell_81 rfl rfl ?_
                refine q_putI (pc2 := 85) d_X_tell_82 rfl k_X_223 (Or.inl rfl) (sh_fe0 hS (show 0 < 3 by decide) (show fN < 12 by omega)) (Or.inl rfl) (fun I23 hI23 => ?_)
                refine r_goto (tgt := 122) d_X_tell_85 rfl ?_
                refine r_iload (pc2 := 124) d_X_tell_122 rfl rfl ?_
                refine Run.ret (some (.int (nI klfN))) d_X_tell_124 ⟨_, rfl⟩ ?_
                first | (exfalso; omega) | exact XD.val (by (try simp only [efN, b0fN, b1fN, b2fN, b3fN, b4fN, b5fN, b6fN, b8fN, b9fN, ek0, Nat.reduceAdd, Int.toNat_natCast] at c1 c3 c5 c6 c16 c18 c19); (unfold o_tell); (try dsimp only); (try simp only [efN, b0fN, b1fN, b2fN, b3fN, b4fN, b5fN, b6fN, b8fN, b9fN, ek0, Nat.reduceAdd, Int.toNat_natCast]); (repeat (first | rw [if_pos (by omega)] | rw [if_neg (by omega)])); (try rfl); (all_goals first | rfl | (simp only [a0fN, a1fN, a2fN, a3fN, a4fN, a5fN, a6fN, a8fN, a9fN]; done) | (congr 2 <;> omega) | ((repeat' split) <;> first | rfl | (simp only [a0fN, a1fN, a2fN, a3fN, a4fN, a5fN, a6fN, a8fN, a9fN]; done) | (exfalso; omega) | (congr 2 <;> omega) | skip))) ⟨(FrD.rf.put hI23 (Or.inl (by first | omega | (unfold ru; omega)))), FrRD.rf, by (try simp only [efN, b0fN, b1fN, b2fN, b3fN, b4fN, b5fN, b6fN, b8fN, b9fN, ek0, Nat.reduceAdd, Int.toNat_natCast] at c1 c3 c5 c6 c16 c18 c19); (unfold g_tell); (try dsimp only); (try simp only [efN, b0fN, b1fN, b2fN, b3fN, b4fN, b5fN, b6fN, b8fN, b9fN, ek0, Nat.reduceAdd, Int.toNat_natCast]); (repeat (first | rw [if_pos (by omega)] | rw [if_neg (by omega)])); exact DR.f1 hW hWT (E := fN) (by omega) hD (fun a j q => rd_ne hI23 (by omega)) (fun j hj => u1_o (by omega)) (FR.s1 (by decide) (by omega) hP24 (hWF fN (by omega)) (hD.2.2.2.1 fN (by omega)) hI23)⟩
            · refine r_aload_n (x := some 0) (pc2 := 62) d_X_tell_61 rfl rfl ?_
              refine r_bipush (v := (-32 : Int32)) (pc2 := 64) d_X_tell_62 rfl (by decide) ?_
              refine q_callv (M2 := mi_X_refuse) (pc2 := 67) d_X_tell_64 rfl k_X_75 cm_X_refuse cv_X_refuse (sh_0 hS) (by decide) rfl rfl rfl (Nat.le_of_ble_eq_true rfl) (c_X_refuse_0 (J := I) hS hR) (d2 := d - 1) (by omega) (Nat.le_of_eq (Nat.zero_add _)) (Nat.le_of_eq (Nat.zero_add _)) ?_
              obtain ⟨I24, hI24⟩ : ∃ x, x = u2 I 744 0 (I 744 0 + nI 1) := ⟨_, rfl⟩
              rw [← hI24]
              refine Run.ret (some (.int ((-32 : Int32)))) d_X_tell_67 ⟨_, rfl⟩ ?_
              first | (exfalso; omega) | exact XD.bad hS 0 (by (try simp only [efN, b0fN, b1fN, b2fN, b3fN, b4fN, b5fN, b6fN, b8fN, b9fN, Int.toNat_natCast] at c1 c3 c5 c6 c16 c18); (unfold o_tell); (try dsimp only); (try simp only [efN, b0fN, b1fN, b2fN, b3fN, b4fN, b5fN, b6fN, b8fN, b9fN, Int.toNat_natCast]); (repeat (first | rw [if_pos (by omega)] | rw [if_neg (by omega)])); (try rfl); (all_goals first | rfl | (simp only [a0fN, a1fN, a2fN, a3fN, a4fN, a5fN, a6fN, a8fN, a9fN]; done) | (congr 2 <;> omega) | ((repeat' split) <;> first | rfl | (simp only [a0fN, a1fN, a2fN, a3fN, a4fN, a5fN, a6fN, a8fN, a9fN]; done) | (exfalso; omega) | (congr 2 <;> omega) | skip))) (by decide) FrXR.rf FrX.rf hI24
      · refine r_aload_n (x := some 0) (pc2 := 18) d_X_tell_17 rfl rfl ?_
        refine r_bipush (v := (-32 : Int32)) (pc2 := 20) d_X_tell_18 rfl (by decide) ?_
        refine q_callv (M2 := mi_X_refuse) (pc2 := 23) d_X_tell_20 rfl k_X_75 cm_X_refuse cv_X_refuse (sh_0 hS) (by decide) rfl rfl rfl (Nat.le_of_ble_eq_true rfl) (c_X_refuse_0 (J := I) hS hR) (d2 := d - 1) (by omega) (Nat.le_of_eq (Nat.zero_add _)) (Nat.le_of_eq (Nat.zero_add _)) ?_
        obtain ⟨I25, hI25⟩ : ∃ x, x = u2 I 744 0 (I 744 0 + nI 1) := ⟨_, rfl⟩
        rw [← hI25]
        refine Run.ret (some (.int ((-32 : Int32)))) d_X_tell_23 ⟨_, rfl⟩ ?_
        first | (exfalso; omega) | exact XD.bad hS 0 (by (try simp only [efN, b0fN, b1fN, b2fN, b3fN, b4fN, b5fN, b6fN, b8fN, b9fN, Int.toNat_natCast] at c1 c3 c5); (unfold o_tell); (try dsimp only); (try simp only [efN, b0fN, b1fN, b2fN, b3fN, b4fN, b5fN, b6fN, b8fN, b9fN, Int.toNat_natCast]); (repeat (first | rw [if_pos (by omega)] | rw [if_neg (by omega)])); (try rfl); (all_goals first | rfl | (simp only [a0fN, a1fN, a2fN, a3fN, a4fN, a5fN, a6fN, a8fN, a9fN]; done) | (congr 2 <;> omega) | ((repeat' split) <;> first | rfl | (simp only [a0fN, a1fN, a2fN, a3fN, a4fN, a5fN, a6fN, a8fN, a9fN]; done) | (exfalso; omega) | (congr 2 <;> omega) | skip))) (by decide) FrXR.rf FrX.rf hI25
theorem c_X_free {d : Nat} {I : Nat → Nat → Int32} {R : Nat → Nat → Option Nat} {L : Nat → Nat → Int64} {sh : Nat → Nat × Nat} {N : Nat} (hS : ShOK sh) (hR : RfOK R) {tK tF tC tS : Nat → Int32} {nt : Nat} (hV : TV tK tF tC nt) (hV2 : TV2 tK tF tC tS nt) (hnt6 : nt ≤ 1000000) {G : Nat → Int32} {nP nF nS : Nat} (hW : WFA G nP nF nt) (hWT : WFT G nF nS) (hKW : WFK G nP nF) {rk : Nat → Nat} (hrk : RK G nF rk) (hD : DR tK tF tC tS I R sh nt 0 G nP nF nS) {f : Int32} (hd : 90 ≤ d) : Mt mi_X_free d 0 0 [.ref 0, .int f] (I, R, L, sh, N) (XD I R L sh N (o_free G nF f) (PD tK tF tC tS I R sh nt (g_free G nF f) nP nF nS)) := by
  obtain ⟨hPc, hP24, hFc, hF12, hWF, hWP⟩ := id hW
  have hS24 := hWT.2.1
  refine Mt.of pn_X (Nat.le_of_ble_eq_true rfl) ?_
  show Run mi_X_free d 0 0 0 [(0, .ref 0), (1, .int f)] [] (I, R, L, sh, N) _
  refine r_aload_n (x := some 0) (pc2 := 1) d_X_free_0 rfl rfl ?_
  refine r_iload_n (pc2 := 2) d_X_free_1 rfl rfl ?_
  refine q_callv (M2 := mi_X_isFeature) (pc2 := 5) d_X_free_2 rfl k_X_220 cm_X_isFeature cv_X_isFeature (sh_0 hS) (by decide) rfl rfl rfl (Nat.le_of_ble_eq_true rfl) (c_X_isFeature (f := f) hS hR hV hV2 hnt6 hW hWT hKW hrk hD) (d2 := d - 1) (by omega) (Nat.le_of_eq (Nat.zero_add _)) (Nat.le_of_eq (Nat.zero_add _)) ?_
  refine q_bif_ne (tgt := 15) (pc2 := 8) d_X_free_5 rfl rfl (fun c1 => ?_) (fun c1 => ?_)
  · obtain ⟨fN, hfN, rfl, efN⟩ := nat_of c1
    obtain ⟨tpfN, klfN, skfN, fbfN, nRfN, nNfN, nOfN, frfN, tofN, ⟨a0fN, b0fN, cc0fN, dd0fN⟩, ⟨a1fN, b1fN, cc1fN, dd1fN⟩, ⟨a2fN, b2fN, cc2fN, dd2fN⟩, ⟨a3fN, b3fN, cc3fN, dd3fN⟩, ⟨a4fN, b4fN, cc4fN, dd4fN⟩, ⟨a5fN, b5fN, cc5fN, dd5fN⟩, ⟨a6fN, b6fN, cc6fN, dd6fN⟩, ⟨a8fN, b8fN, cc8fN, dd8fN⟩, ⟨a9fN, b9fN, cc9fN, dd9fN⟩⟩ := wfn (hWF fN (by omega))
    obtain ⟨-, -, -, -, -, -, -, w7fN, -, -, wNfN, wRfN, wKfN, wOfN⟩ := hWF fN (by omega)
    obtain ⟨⟨x0fN, x1fN, x2fN, x3fN, x4fN, x5fN, x6fN, x7fN, x8fN⟩, xnfN, xofN, xkfN, xcfN, xrfN⟩ := hD.2.2.2.1 fN (by omega)
    have hflfN := fe_lt (e := 0) (by decide) (show fN < 12 by omega)
    unfold dk at hflfN
    refine r_aload_n (x := some 0) (pc2 := 16) d_X_free_15 rfl rfl ?_
    refine q_getR (x := some 1) (pc2 := 19) d_X_free_16 rfl k_X_12 rfl (sh_0 hS) (rf_0_0 hR) ?_
    refine q_getR (x := some 5) (pc2 := 22) d_X_free_19 rfl k_X_211 rfl (sh_1 hS) (rf_1_1 hR) ?_
    refine r_iload_n (pc2 := 23) d_X_free_22 rfl rfl ?_
    refine q_aaload (q := fN) (x := some (fe 0 fN)) (pc2 := 24) d_X_free_23 rfl (sh_5 hS) (by decide) (by decide) (nI_toInt (by omega)) (by omega) (rf_fe hR (show 0 < 3 by decide) (show fN < 12 by omega)) ?_
    refine q_getI (x := nI nNfN) (pc2 := 27) d_X_free_24 rfl k_X_280 (by decide) (sh_fe0 hS (show 0 < 3 by decide) (show fN < 12 by omega)) (x5fN.trans a5fN) ?_
    refine r_istore_n (pc2 := 28) d_X_free_27 rfl rfl (Nat.le_of_ble_eq_true rfl) ?_
    refine r_aload_n (x := some 0) (pc2 := 29) d_X_free_28 rfl rfl ?_
    refine q_getR (x := some 1) (pc2 := 32) d_X_free_29 rfl k_X_12 rfl (sh_0 hS) (rf_0_0 hR) ?_
    refine q_getR (x := some 5) (pc2 := 35) d_X_free_32 rfl k_X_211 rfl (sh_1 hS) (rf_1_1 hR) ?_
    refine r_iload_n (pc2 := 36) d_X_free_35 rfl rfl ?_
    refine q_aaload (q := fN) (x := some (fe 0 fN)) (pc2 := 37) d_X_free_36 rfl (sh_5 hS) (by decide) (by decide) (nI_toInt (by omega)) (by omega) (rf_fe hR (show 0 < 3 by decide) (show fN < 12 by omega)) ?_
    refine r_iconst (v := nI 0) (pc2 := 38) d_X_free_37 rfl (by decide) ?_
    refine q_putI (pc2 := 41) d_X_free_38 rfl k_X_280 (Or.inl rfl) (sh_fe0 hS (show 0 < 3 by decide) (show fN < 12 by omega)) (Or.inl rfl) (fun I2 hI2 => ?_)
    refine r_iload_n (pc2 := 42) d_X_free_41 rfl rfl ?_
    refine Run.ret (some (.int (nI nNfN))) d_X_free_42 ⟨_, rfl⟩ ?_
    exact XD.val (by (try simp only [efN, b0fN, b1fN, b2fN, b3fN, b4fN, b5fN, b6fN, b8fN, b9fN, Int.toNat_natCast] at c1); (unfold o_free); (try dsimp only); (try simp only [efN, b0fN, b1fN, b2fN, b3fN, b4fN, b5fN, b6fN, b8fN, b9fN, Int.toNat_natCast]); (repeat (first | rw [if_pos (by omega)] | rw [if_neg (by omega)])); (try rfl); (all_goals first | rfl | (simp only [a0fN, a1fN, a2fN, a3fN, a4fN, a5fN, a6fN, a8fN, a9fN]; done) | (congr 2 <;> omega) | ((repeat' split) <;> first | rfl | (simp only [a0fN, a1fN, a2fN, a3fN, a4fN, a5fN, a6fN, a8fN, a9fN]; done) | (exfalso; omega) | (congr 2 <;> omega) | skip))) ⟨(FrD.rf.put hI2 (Or.inl (by first | omega | (unfold ru; omega)))), FrRD.rf, by (try simp only [efN, b0fN, b1fN, b2fN, b3fN, b4fN, b5fN, b6fN, b8fN, b9fN, Int.toNat_natCast] at c1); (unfold g_free); (try dsimp only); (try simp only [efN, b0fN, b1fN, b2fN, b3fN, b4fN, b5fN, b6fN, b8fN, b9fN, Int.toNat_natCast]); (repeat (first | rw [if_pos (by omega)] | rw [if_neg (by omega)])); exact DR.f1 hW hWT (E := fN) (by omega) hD (fun a j q => rd_ne hI2 (by omega)) (fun j hj => u1_o (by omega)) (FR.free (by decide) (by omega) hP24 (hWF fN (by omega)) (hD.2.2.2.1 fN (by omega)) hI2)⟩
  · refine r_aload_n (x := some 0) (pc2 := 9) d_X_free_8 rfl rfl ?_
    refine r_bipush (v := (-32 : Int32)) (pc2 := 11) d_X_free_9 rfl (by decide) ?_
    refine q_callv (M2 := mi_X_refuse) (pc2 := 14) d_X_free_11 rfl k_X_75 cm_X_refuse cv_X_refuse (sh_0 hS) (by decide) rfl rfl rfl (Nat.le_of_ble_eq_true rfl) (c_X_refuse_0 (J := I) hS hR) (d2 := d - 1) (by omega) (Nat.le_of_eq (Nat.zero_add _)) (Nat.le_of_eq (Nat.zero_add _)) ?_
    obtain ⟨I3, hI3⟩ : ∃ x, x = u2 I 744 0 (I 744 0 + nI 1) := ⟨_, rfl⟩
    rw [← hI3]
    refine Run.ret (some (.int ((-32 : Int32)))) d_X_free_14 ⟨_, rfl⟩ ?_
    exact XD.bad hS 0 (by (unfold o_free); (try dsimp only); (try simp only [Int.toNat_natCast]); (repeat (first | rw [if_pos (by omega)] | rw [if_neg (by omega)])); (try rfl); (all_goals first | rfl | (congr 2 <;> omega) | ((repeat' split) <;> first | rfl | (exfalso; omega) | (congr 2 <;> omega) | skip))) (by decide) FrXR.rf FrX.rf hI3
theorem c_X_seed {d : Nat} {I : Nat → Nat → Int32} {R : Nat → Nat → Option Nat} {L : Nat → Nat → Int64} {sh : Nat → Nat × Nat} {N : Nat} (hS : ShOK sh) (hR : RfOK R) {tK tF tC tS : Nat → Int32} {nt : Nat} (hV : TV tK tF tC nt) (hV2 : TV2 tK tF tC tS nt) (hnt6 : nt ≤ 1000000) {G : Nat → Int32} {nP nF nS : Nat} (hW : WFA G nP nF nt) (hWT : WFT G nF nS) (hKW : WFK G nP nF) {rk : Nat → Nat} (hrk : RK G nF rk) (hD : DR tK tF tC tS I R sh nt 0 G nP nF nS) {v : Int32} (hd : 90 ≤ d) : Mt mi_X_seed d 0 0 [.ref 0, .int v] (I, R, L, sh, N) (XD I R L sh N (o_seed G) (PD tK tF tC tS I R sh nt (g_seed G v) nP nF nS)) := by
  obtain ⟨hPc, hP24, hFc, hF12, hWF, hWP⟩ := id hW
  have hS24 := hWT.2.1
  refine Mt.of pn_X (Nat.le_of_ble_eq_true rfl) ?_
  show Run mi_X_seed d 0 0 0 [(0, .ref 0), (1, .int v)] [] (I, R, L, sh, N) _
  refine r_aload_n (x := some 0) (pc2 := 1) d_X_seed_0 rfl rfl ?_
  refine q_getR (x := some 1) (pc2 := 4) d_X_seed_1 rfl k_X_12 rfl (sh_0 hS) (rf_0_0 hR) ?_
  refine q_getI (x := G 5) (pc2 := 7) d_X_seed_4 rfl k_X_401 (by decide) (sh_1 hS) hD.1.2.2.2.1 ?_
  refine r_istore_n (pc2 := 8) d_X_seed_7 rfl rfl (Nat.le_of_ble_eq_true rfl) ?_
  refine r_aload_n (x := some 0) (pc2 := 9) d_X_seed_8 rfl rfl ?_
  refine q_getR (x := some 1) (pc2 := 12) d_X_seed_9 rfl k_X_12 rfl (sh_0 hS) (rf_0_0 hR) ?_
  refine r_iload_n (pc2 := 13) d_X_seed_12 rfl rfl ?_
  refine q_putI (pc2 := 16) d_X_seed_13 rfl k_X_401 (Or.inl rfl) (sh_1 hS) (Or.inl rfl) (fun I1 hI1 => ?_)
  refine r_iload_n (pc2 := 17) d_X_seed_16 rfl rfl ?_
  refine Run.ret (some (.int (G 5))) d_X_seed_17 ⟨_, rfl⟩ ?_
  exact XD.val (by (unfold o_seed); (try dsimp only); (try simp only [Int.toNat_natCast]); (repeat (first | rw [if_pos (by omega)] | rw [if_neg (by omega)])); (try rfl); (all_goals first | rfl | (congr 2 <;> omega) | ((repeat' split) <;> first | rfl | (exfalso; omega) | (congr 2 <;> omega) | skip))) ⟨(FrD.rf.put hI1 (Or.inl (by omega))), FrRD.rf, by (unfold g_seed); (try dsimp only); (try simp only [Int.toNat_natCast]); (repeat (first | rw [if_pos (by omega)] | rw [if_neg (by omega)])); exact DR.head hW hWT (k := 5) (w := 5) (by omega) hD hI1⟩
theorem c_X_part {d : Nat} {I : Nat → Nat → Int32} {R : Nat → Nat → Option Nat} {L : Nat → Nat → Int64} {sh : Nat → Nat × Nat} {N : Nat} (hS : ShOK sh) (hR : RfOK R) {tK tF tC tS : Nat → Int32} {nt : Nat} (hV : TV tK tF tC nt) (hV2 : TV2 tK tF tC tS nt) (hnt6 : nt ≤ 1000000) {G : Nat → Int32} {nP nF nS : Nat} (hW : WFA G nP nF nt) (hWT : WFT G nF nS) (hKW : WFK G nP nF) {rk : Nat → Nat} (hrk : RK G nF rk) (hD : DR tK tF tC tS I R sh nt 0 G nP nF nS) {f : Int32} {r : Int32} {k : Int32} {q : Int32} (hd : 90 ≤ d) : Mt mi_X_part d 0 0 [.ref 0, .int f, .int r, .int k, .int q] (I, R, L, sh, N) (XD I R L sh N (o_part G nF f r k q) (PD tK tF tC tS I R sh nt (g_part G nF f r k q) nP nF nS)) := by
  obtain ⟨hPc, hP24, hFc, hF12, hWF, hWP⟩ := id hW
  have hS24 := hWT.2.1
  refine Mt.of pn_X (Nat.le_of_ble_eq_true rfl) ?_
  show Run mi_X_part d 0 0 0 [(0, .ref 0), (1, .int f), (2, .int r), (3, .int k), (4, .int q)] [] (I, R, L, sh, N) _
  refine r_aload_n (x := some 0) (pc2 := 1) d_X_part_0 rfl rfl ?_
  refine r_iload_n (pc2 := 2) d_X_part_1 rfl rfl ?_
  refine r_iload_n (pc2 := 3) d_X_part_2 rfl rfl ?_
  refine r_iload_n (pc2 := 4) d_X_part_3 rfl rfl ?_
  refine q_callv (M2 := mi_X_isPlaceOfPart) (pc2 := 7) d_X_part_4 rfl k_X_260 cm_X_isPlaceOfPart cv_X_isPlaceOfPart (sh_0 hS) (by decide) rfl rfl rfl (Nat.le_of_ble_eq_true rfl) (c_X_isPlaceOfPart (f := f) (r := r) (v := k) hS hR hV hV2 hnt6 hW hWT hKW hrk hD (by omega)) (d2 := d - 1) (by omega) (Nat.le_of_eq (Nat.zero_add _)) (Nat.le_of_eq (Nat.zero_add _)) ?_
  refine q_bif_eq (tgt := 19) (pc2 := 10) d_X_part_7 rfl rfl (fun c1 => ?_) (fun c1 => ?_)
  · refine r_aload_n (x := some 0) (pc2 := 20) d_X_part_19 rfl rfl ?_
    refine r_bipush (v := (-32 : Int32)) (pc2 := 22) d_X_part_20 rfl (by decide) ?_
    refine q_callv (M2 := mi_X_refuse) (pc2 := 25) d_X_part_22 rfl k_X_75 cm_X_refuse cv_X_refuse (sh_0 hS) (by decide) rfl rfl rfl (Nat.le_of_ble_eq_true rfl) (c_X_refuse_0 (J := I) hS hR) (d2 := d - 1) (by omega) (Nat.le_of_eq (Nat.zero_add _)) (Nat.le_of_eq (Nat.zero_add _)) ?_
    obtain ⟨I2, hI2⟩ : ∃ x, x = u2 I 744 0 (I 744 0 + nI 1) := ⟨_, rfl⟩
    rw [← hI2]
    refine Run.ret (some (.int ((-32 : Int32)))) d_X_part_25 ⟨_, rfl⟩ ?_
    first | (exfalso; omega) | exact XD.bad hS 0 (by (try simp only [okPart, Int.toNat_natCast] at c1); (unfold o_part); (try dsimp only); (try simp only [okPart, Int.toNat_natCast]); (repeat (first | rw [if_pos (by omega)] | rw [if_neg (by omega)])); (try rfl); (all_goals first | rfl | (congr 2 <;> omega) | ((repeat' split) <;> first | rfl | (exfalso; omega) | (congr 2 <;> omega) | skip))) (by decide) FrXR.rf FrX.rf hI2
  · obtain ⟨q1c1, q2c1⟩ := id c1
    obtain ⟨fN, hfN, rfl, efN⟩ := nat_of q1c1.1
    obtain ⟨tpfN, klfN, skfN, fbfN, nRfN, nNfN, nOfN, frfN, tofN, ⟨a0fN, b0fN, cc0fN, dd0fN⟩, ⟨a1fN, b1fN, cc1fN, dd1fN⟩, ⟨a2fN, b2fN, cc2fN, dd2fN⟩, ⟨a3fN, b3fN, cc3fN, dd3fN⟩, ⟨a4fN, b4fN, cc4fN, dd4fN⟩, ⟨a5fN, b5fN, cc5fN, dd5fN⟩, ⟨a6fN, b6fN, cc6fN, dd6fN⟩, ⟨a8fN, b8fN, cc8fN, dd8fN⟩, ⟨a9fN, b9fN, cc9fN, dd9fN⟩⟩ := wfn (hWF fN (by omega))
    obtain ⟨-, -, -, -, -, -, -, w7fN, -, -, wNfN, wRfN, wKfN, wOfN⟩ := hWF fN (by omega)
    obtain ⟨⟨x0fN, x1fN, x2fN, x3fN, x4fN, x5fN, x6fN, x7fN, x8fN⟩, xnfN, xofN, xkfN, xcfN, xrfN⟩ := hD.2.2.2.1 fN (by omega)
    have hflfN := fe_lt (e := 0) (by decide) (show fN < 12 by omega)
    unfold dk at hflfN
    simp only [efN, Int.toNat_natCast, b4fN] at q1c1
    obtain ⟨rN, hrN, rfl, erN⟩ := nat_of q1c1.2
    obtain ⟨rtfNrN, rafNrN, rbfNrN, rcfNrN, ⟨t0fNrN, t1fNrN, t2fNrN⟩, ⟨u0fNrN, u1fNrN, u2fNrN⟩, ⟨v0fNrN, v1fNrN, v2fNrN⟩, ⟨z0fNrN, z1fNrN, z2fNrN⟩⟩ := wrn (wRfN rN (by omega))
    obtain ⟨rffNrN, rsfNrN, cfNrN, mfNrN, bbfNrN, rrfNrN, cofNrN, bnfNrN, ttfNrN⟩ := xrfN rN (by unfold nRof; rw [b4fN, Int.toNat_natCast]; omega)
    have cmfNrN := cofNrN.2.2.1
    have c781fNrN := cofNrN.2.2.2.1
    (try simp only [efN, Int.toNat_natCast, b0fN] at q2c1)
    obtain ⟨kN, hkN, gkN, rfl, ekN⟩ := nat_of' (show (0 : Int) ≤ 1 by decide) q2c1
    refine r_aload_n (x := some 0) (pc2 := 11) d_X_part_10 rfl rfl ?_
    refine r_iload (pc2 := 13) d_X_part_11 rfl rfl ?_
    refine q_callv (M2 := mi_X_isPart) (pc2 := 16) d_X_part_13 rfl k_X_264 cm_X_isPart cv_X_isPart (sh_0 hS) (by decide) rfl rfl rfl (Nat.le_of_ble_eq_true rfl) (c_X_isPart (s := q)) (d2 := d - 1) (by omega) (Nat.le_of_eq (Nat.zero_add _)) (Nat.le_of_eq (Nat.zero_add _)) ?_
    refine q_bif_ne (tgt := 26) (pc2 := 19) d_X_part_16 rfl rfl (fun c3 => ?_) (fun c3 => ?_)
    · obtain ⟨qN, hqN, gqN, rfl, eqN⟩ := nat_of' (Int.le_refl 0) c3
      refine r_aload_n (x := some 0) (pc2 := 27) d_X_part_26 rfl rfl ?_
      refine r_iload_n (pc2 := 28) d_X_part_27 rfl rfl ?_
      refine r_iload_n (pc2 := 29) d_X_part_28 rfl rfl ?_
      refine q_callv (M2 := mi_X_ruleAt) (pc2 := 32) d_X_part_29 rfl k_X_125 cm_X_ruleAt cv_X_ruleAt (sh_0 hS) (by decide) rfl rfl rfl (Nat.le_of_ble_eq_true rfl) (c_X_ruleAt (I := I) (F := fN) (r := rN) hS hR (by omega) (by omega)) (d2 := d - 1) (by omega) (Nat.le_of_eq (Nat.zero_add _)) (Nat.le_of_eq (Nat.zero_add _)) ?_
      refine r_astore (x := some (ru 0 fN rN)) (pc2 := 34) d_X_part_32 rfl (Nat.le_of_ble_eq_true rfl) ?_
      have hm1 : (-1 : Int32).toInt = -1 := by decide
      by_cases hfx : 1000 ≤ (G (174 + 84 * fN + 60 + 4 * rN + 1)).toInt
      · have hfv : (G (174 + 84 * fN + 60 + 4 * rN + 1) - nI 1000).toInt = ((rafNrN : Nat) : Int) - ((1000 : Nat) : Int) := by rw [u0fNrN]; exact nI_sub_toInt (by omega) (by omega)
        refine r_aload (x := some (ru 0 fN rN)) (pc2 := 36) d_X_part_34 rfl rfl ?_
        refine q_callv (M2 := mi_Ru_isFixed) (pc2 := 39) d_X_part_36 rfl k_X_267 cm_Ru_isFixed cv_Ru_isFixed (sh_ru hS (show 0 < 3 by decide) (show fN < 12 by omega) (show rN < 6 by omega)) (by decide) rfl rfl rfl (Nat.le_of_ble_eq_true rfl) (c_Ru_isFixed (J := I) (q := ru 0 fN rN) (sh_ru hS (show 0 < 3 by decide) (show fN < 12 by omega) (show rN < 6 by omega)) (sh_rp hS (show 0 < 3 by decide) (show fN < 12 by omega) (show rN < 6 by omega)) (rf_rp hR (show 0 < 3 by decide) (show fN < 12 by omega) (show rN < 6 by omega))) (d2 := d - 1) (by omega) (Nat.le_of_eq (Nat.zero_add _)) (Nat.le_of_eq (Nat.zero_add _)) ?_
        rw [show I (ru 0 fN rN) 1 = G (174 + 84 * fN + 60 + 4 * rN + 1) - nI 1000 from rffNrN hfx]
        refine q_bif_eq (tgt := 49) (pc2 := 42) d_X_part_39 rfl rfl (fun c4 => ?_) (fun c4 => ?_)
        · refine r_aload (x := some (ru 0 fN rN)) (pc2 := 51) d_X_part_49 rfl rfl ?_
          refine q_getR (x := some (ru 0 fN rN + 1)) (pc2 := 54) d_X_part_51 rfl k_X_270 rfl (sh_ru hS (show 0 < 3 by decide) (show fN < 12 by omega) (show rN < 6 by omega)) (rf_rp hR (show 0 < 3 by decide) (show fN < 12 by omega) (show rN < 6 by omega)) ?_
          refine r_iload_n (pc2 := 55) d_X_part_54 rfl rfl ?_
          refine r_iconst (v := nI 1) (pc2 := 56) d_X_part_55 rfl (by decide) ?_
          refine q_isubN (pc2 := 57) d_X_part_56 rfl (by omega) ?_
          refine q_iaload (q := kN - 1) (x := I (ru 0 fN rN + 1) (kN - 1)) (pc2 := 58) d_X_part_57 rfl (sh_rp hS (show 0 < 3 by decide) (show fN < 12 by omega) (show rN < 6 by omega)) (nI_toInt (by omega)) (by omega) rfl ?_
          refine r_istore (pc2 := 60) d_X_part_58 rfl (Nat.le_of_ble_eq_true rfl) ?_
          refine r_aload (x := some (ru 0 fN rN)) (pc2 := 62) d_X_part_60 rfl rfl ?_
          refine q_getR (x := some (ru 0 fN rN + 1)) (pc2 := 65) d_X_part_62 rfl k_X_270 rfl (sh_ru hS (show 0 < 3 by decide) (show fN < 12 by omega) (show rN < 6 by omega)) (rf_rp hR (show 0 < 3 by decide) (show fN < 12 by omega) (show rN < 6 by omega)) ?_
          refine r_iload_n (pc2 := 66) d_X_part_65 rfl rfl ?_
          refine r_iconst (v := nI 1) (pc2 := 67) d_X_part_66 rfl (by decide) ?_
          refine q_isubN (pc2 := 68) d_X_part_67 rfl (by omega) ?_
          refine r_iload (pc2 := 70) d_X_part_68 rfl rfl ?_
          refine q_iastore (q := kN - 1) (pc2 := 71) d_X_part_70 rfl (sh_rp hS (show 0 < 3 by decide) (show fN < 12 by omega) (show rN < 6 by omega)) (nI_toInt (by omega)) (by omega) (fun I5 hI5 => ?_)
          refine r_iload (pc2 := 73) d_X_part_71 rfl rfl ?_
          refine Run.ret (some (.int (I (ru 0 fN rN + 1) (kN - 1)))) d_X_part_73 ⟨_, rfl⟩ ?_
          first | (exfalso; omega) | exact XD.val (by (try simp only [okPart, efN, b0fN, b1fN, b2fN, b3fN, b4fN, b5fN, b6fN, b8fN, b9fN, erN, t1fNrN, u1fNrN, v1fNrN, z1fNrN, ekN, eqN, Int.toNat_natCast] at c1 c3 c4); (unfold o_part); (try dsimp only); (try simp only [okPart, efN, b0fN, b1fN, b2fN, b3fN, b4fN, b5fN, b6fN, b8fN, b9fN, erN, t1fNrN, u1fNrN, v1fNrN, z1fNrN, ekN, eqN, Int.toNat_natCast]); (repeat (first | rw [if_pos (by omega)] | rw [if_neg (by omega)])); (try rfl); (all_goals first | rfl | (simp only [a0fN, a1fN, a2fN, a3fN, a4fN, a5fN, a6fN, a8fN, a9fN]; done) | (congr 2 <;> omega) | ((repeat' split) <;> first | rfl | (simp only [a0fN, a1fN, a2fN, a3fN, a4fN, a5fN, a6fN, a8fN, a9fN]; done) | (exfalso; omega) | (congr 2 <;> omega) | skip))) ⟨(FrD.rf.put hI5 (Or.inl (by first | omega | (unfold ru; omega)))), FrRD.rf, by (try simp only [okPart, efN, b0fN, b1fN, b2fN, b3fN, b4fN, b5fN, b6fN, b8fN, b9fN, erN, t1fNrN, u1fNrN, v1fNrN, z1fNrN, ekN, eqN, Int.toNat_natCast] at c1 c3 c4); (unfold g_part); (try dsimp only); (try simp only [okPart, efN, b0fN, b1fN, b2fN, b3fN, b4fN, b5fN, b6fN, b8fN, b9fN, erN, t1fNrN, u1fNrN, v1fNrN, z1fNrN, ekN, eqN, Int.toNat_natCast]); (repeat (first | rw [if_pos (by omega)] | rw [if_neg (by omega)])); exact DR.f1 hW hWT (E := fN) (by omega) hD (fun a j q => rd_ne hI5 (by unfold ru; omega)) (fun j hj => u1_o (by omega)) (FR.part (by decide) (by omega) hP24 (hWF fN (by omega)) (by unfold nRof; rw [b4fN, Int.toNat_natCast]; omega) (by omega) hfx (by omega) (hD.2.2.2.1 fN (by omega)) hI5)⟩
        · refine r_aload_n (x := some 0) (pc2 := 43) d_X_part_42 rfl rfl ?_
          refine r_bipush (v := (-35 : Int32)) (pc2 := 45) d_X_part_43 rfl (by decide) ?_
          refine q_callv (M2 := mi_X_refuse) (pc2 := 48) d_X_part_45 rfl k_X_75 cm_X_refuse cv_X_refuse (sh_0 hS) (by decide) rfl rfl rfl (Nat.le_of_ble_eq_true rfl) (c_X_refuse_3 (J := I) hS hR) (d2 := d - 1) (by omega) (Nat.le_of_eq (Nat.zero_add _)) (Nat.le_of_eq (Nat.zero_add _)) ?_
          obtain ⟨I6, hI6⟩ : ∃ x, x = u2 I 744 3 (I 744 3 + nI 1) := ⟨_, rfl⟩
          rw [← hI6]
          refine Run.ret (some (.int ((-35 : Int32)))) d_X_part_48 ⟨_, rfl⟩ ?_
          first | (exfalso; omega) | exact XD.bad hS 3 (by (try simp only [okPart, efN, b0fN, b1fN, b2fN, b3fN, b4fN, b5fN, b6fN, b8fN, b9fN, erN, t1fNrN, u1fNrN, v1fNrN, z1fNrN, ekN, eqN, Int.toNat_natCast] at c1 c3 c4); (unfold o_part); (try dsimp only); (try simp only [okPart, efN, b0fN, b1fN, b2fN, b3fN, b4fN, b5fN, b6fN, b8fN, b9fN, erN, t1fNrN, u1fNrN, v1fNrN, z1fNrN, ekN, eqN, Int.toNat_natCast]); (repeat (first | rw [if_pos (by omega)] | rw [if_neg (by omega)])); (try rfl); (all_goals first | rfl | (simp only [a0fN, a1fN, a2fN, a3fN, a4fN, a5fN, a6fN, a8fN, a9fN]; done) | (congr 2 <;> omega) | ((repeat' split) <;> first | rfl | (simp only [a0fN, a1fN, a2fN, a3fN, a4fN, a5fN, a6fN, a8fN, a9fN]; done) | (exfalso; omega) | (congr 2 <;> omega) | skip))) (by decide) FrXR.rf FrX.rf hI6
      · have hrs := rsfNrN hfx
        have hpt : I (ru 0 fN rN + 1) (kN - 1) = G (174 + 84 * fN + 60 + 4 * rN + kN) := by
          rcases (show kN = 1 ∨ kN = 2 ∨ kN = 3 by omega) with z | z | z
          · rw [z]; exact hrs.2.1
          · rw [z]; exact hrs.2.2.1
          · rw [z]; exact hrs.2.2.2
        refine r_aload (x := some (ru 0 fN rN)) (pc2 := 36) d_X_part_34 rfl rfl ?_
        refine q_callv (M2 := mi_Ru_isFixed) (pc2 := 39) d_X_part_36 rfl k_X_267 cm_Ru_isFixed cv_Ru_isFixed (sh_ru hS (show 0 < 3 by decide) (show fN < 12 by omega) (show rN < 6 by omega)) (by decide) rfl rfl rfl (Nat.le_of_ble_eq_true rfl) (c_Ru_isFixed (J := I) (q := ru 0 fN rN) (sh_ru hS (show 0 < 3 by decide) (show fN < 12 by omega) (show rN < 6 by omega)) (sh_rp hS (show 0 < 3 by decide) (show fN < 12 by omega) (show rN < 6 by omega)) (rf_rp hR (show 0 < 3 by decide) (show fN < 12 by omega) (show rN < 6 by omega))) (d2 := d - 1) (by omega) (Nat.le_of_eq (Nat.zero_add _)) (Nat.le_of_eq (Nat.zero_add _)) ?_
        rw [show I (ru 0 fN rN) 1 = (-1 : Int32) from hrs.1]
        refine q_bif_eq (tgt := 49) (pc2 := 42) d_X_part_39 rfl rfl (fun c7 => ?_) (fun c7 => ?_)
        · refine r_aload (x := some (ru 0 fN rN)) (pc2 := 51) d_X_part_49 rfl rfl ?_
          refine q_getR (x := some (ru 0 fN rN + 1)) (pc2 := 54) d_X_part_51 rfl k_X_270 rfl (sh_ru hS (show 0 < 3 by decide) (show fN < 12 by omega) (show rN < 6 by omega)) (rf_rp hR (show 0 < 3 by decide) (show fN < 12 by omega) (show rN < 6 by omega)) ?_
          refine r_iload_n (pc2 := 55) d_X_part_54 rfl rfl ?_
          refine r_iconst (v := nI 1) (pc2 := 56) d_X_part_55 rfl (by decide) ?_
          refine q_isubN (pc2 := 57) d_X_part_56 rfl (by omega) ?_
          refine q_iaload (q := kN - 1) (x := G (174 + 84 * fN + 60 + 4 * rN + kN)) (pc2 := 58) d_X_part_57 rfl (sh_rp hS (show 0 < 3 by decide) (show fN < 12 by omega) (show rN < 6 by omega)) (nI_toInt (by omega)) (by omega) hpt ?_
          refine r_istore (pc2 := 60) d_X_part_58 rfl (Nat.le_of_ble_eq_true rfl) ?_
          refine r_aload (x := some (ru 0 fN rN)) (pc2 := 62) d_X_part_60 rfl rfl ?_
          refine q_getR (x := some (ru 0 fN rN + 1)) (pc2 := 65) d_X_part_62 rfl k_X_270 rfl (sh_ru hS (show 0 < 3 by decide) (show fN < 12 by omega) (show rN < 6 by omega)) (rf_rp hR (show 0 < 3 by decide) (show fN < 12 by omega) (show rN < 6 by omega)) ?_
          refine r_iload_n (pc2 := 66) d_X_part_65 rfl rfl ?_
          refine r_iconst (v := nI 1) (pc2 := 67) d_X_part_66 rfl (by decide) ?_
          refine q_isubN (pc2 := 68) d_X_part_67 rfl (by omega) ?_
          refine r_iload (pc2 := 70) d_X_part_68 rfl rfl ?_
          refine q_iastore (q := kN - 1) (pc2 := 71) d_X_part_70 rfl (sh_rp hS (show 0 < 3 by decide) (show fN < 12 by omega) (show rN < 6 by omega)) (nI_toInt (by omega)) (by omega) (fun I8 hI8 => ?_)
          refine r_iload (pc2 := 73) d_X_part_71 rfl rfl ?_
          refine Run.ret (some (.int (G (174 + 84 * fN + 60 + 4 * rN + kN)))) d_X_part_73 ⟨_, rfl⟩ ?_
          first | (exfalso; omega) | exact XD.val (by (try simp only [okPart, efN, b0fN, b1fN, b2fN, b3fN, b4fN, b5fN, b6fN, b8fN, b9fN, erN, t1fNrN, u1fNrN, v1fNrN, z1fNrN, ekN, eqN, Int.toNat_natCast] at c1 c3 c7); (unfold o_part); (try dsimp only); (try simp only [okPart, efN, b0fN, b1fN, b2fN, b3fN, b4fN, b5fN, b6fN, b8fN, b9fN, erN, t1fNrN, u1fNrN, v1fNrN, z1fNrN, ekN, eqN, Int.toNat_natCast]); (repeat (first | rw [if_pos (by omega)] | rw [if_neg (by omega)])); (try rfl); (all_goals first | rfl | (simp only [a0fN, a1fN, a2fN, a3fN, a4fN, a5fN, a6fN, a8fN, a9fN]; done) | (congr 2 <;> omega) | ((repeat' split) <;> first | rfl | (simp only [a0fN, a1fN, a2fN, a3fN, a4fN, a5fN, a6fN, a8fN, a9fN]; done) | (exfalso; omega) | (congr 2 <;> omega) | skip))) ⟨(FrD.rf.put hI8 (Or.inl (by first | omega | (unfold ru; omega)))), FrRD.rf, by (try simp only [okPart, efN, b0fN, b1fN, b2fN, b3fN, b4fN, b5fN, b6fN, b8fN, b9fN, erN, t1fNrN, u1fNrN, v1fNrN, z1fNrN, ekN, eqN, Int.toNat_natCast] at c1 c3 c7); (unfold g_part); (try dsimp only); (try simp only [okPart, efN, b0fN, b1fN, b2fN, b3fN, b4fN, b5fN, b6fN, b8fN, b9fN, erN, t1fNrN, u1fNrN, v1fNrN, z1fNrN, ekN, eqN, Int.toNat_natCast]); (repeat (first | rw [if_pos (by omega)] | rw [if_neg (by omega)])); exact DR.f1 hW hWT (E := fN) (by omega) hD (fun a j q => rd_ne hI8 (by unfold ru; omega)) (fun j hj => u1_o (by omega)) (FR.part (by decide) (by omega) hP24 (hWF fN (by omega)) (by unfold nRof; rw [b4fN, Int.toNat_natCast]; omega) (by omega) hfx (by omega) (hD.2.2.2.1 fN (by omega)) hI8)⟩
        · refine r_aload_n (x := some 0) (pc2 := 43) d_X_part_42 rfl rfl ?_
          refine r_bipush (v := (-35 : Int32)) (pc2 := 45) d_X_part_43 rfl (by decide) ?_
          refine q_callv (M2 := mi_X_refuse) (pc2 := 48) d_X_part_45 rfl k_X_75 cm_X_refuse cv_X_refuse (sh_0 hS) (by decide) rfl rfl rfl (Nat.le_of_ble_eq_true rfl) (c_X_refuse_3 (J := I) hS hR) (d2 := d - 1) (by omega) (Nat.le_of_eq (Nat.zero_add _)) (Nat.le_of_eq (Nat.zero_add _)) ?_
          obtain ⟨I9, hI9⟩ : ∃ x, x = u2 I 744 3 (I 744 3 + nI 1) := ⟨_, rfl⟩
          rw [← hI9]
          refine Run.ret (some (.int ((-35 : Int32)))) d_X_part_48 ⟨_, rfl⟩ ?_
          first | (exfalso; omega) | exact XD.bad hS 3 (by (try simp only [okPart, efN, b0fN, b1fN, b2fN, b3fN, b4fN, b5fN, b6fN, b8fN, b9fN, erN, t1fNrN, u1fNrN, v1fNrN, z1fNrN, ekN, eqN, Int.toNat_natCast] at c1 c3 c7); (unfold o_part); (try dsimp only); (try simp only [okPart, efN, b0fN, b1fN, b2fN, b3fN, b4fN, b5fN, b6fN, b8fN, b9fN, erN, t1fNrN, u1fNrN, v1fNrN, z1fNrN, ekN, eqN, Int.toNat_natCast]); (repeat (first | rw [if_pos (by omega)] | rw [if_neg (by omega)])); (try rfl); (all_goals first | rfl | (simp only [a0fN, a1fN, a2fN, a3fN, a4fN, a5fN, a6fN, a8fN, a9fN]; done) | (congr 2 <;> omega) | ((repeat' split) <;> first | rfl | (simp only [a0fN, a1fN, a2fN, a3fN, a4fN, a5fN, a6fN, a8fN, a9fN]; done) | (exfalso; omega) | (congr 2 <;> omega) | skip))) (by decide) FrXR.rf FrX.rf hI9
    · refine r_aload_n (x := some 0) (pc2 := 20) d_X_part_19 rfl rfl ?_
      refine r_bipush (v := (-32 : Int32)) (pc2 := 22) d_X_part_20 rfl (by decide) ?_
      refine q_callv (M2 := mi_X_refuse) (pc2 := 25) d_X_part_22 rfl k_X_75 cm_X_refuse cv_X_refuse (sh_0 hS) (by decide) rfl rfl rfl (Nat.le_of_ble_eq_true rfl) (c_X_refuse_0 (J := I) hS hR) (d2 := d - 1) (by omega) (Nat.le_of_eq (Nat.zero_add _)) (Nat.le_of_eq (Nat.zero_add _)) ?_
      obtain ⟨I10, hI10⟩ : ∃ x, x = u2 I 744 0 (I 744 0 + nI 1) := ⟨_, rfl⟩
      rw [← hI10]
      refine Run.ret (some (.int ((-32 : Int32)))) d_X_part_25 ⟨_, rfl⟩ ?_
      first | (exfalso; omega) | exact XD.bad hS 0 (by (try simp only [okPart, efN, b0fN, b1fN, b2fN, b3fN, b4fN, b5fN, b6fN, b8fN, b9fN, erN, t1fNrN, u1fNrN, v1fNrN, z1fNrN, ekN, Int.toNat_natCast] at c1 c3); (unfold o_part); (try dsimp only); (try simp only [okPart, efN, b0fN, b1fN, b2fN, b3fN, b4fN, b5fN, b6fN, b8fN, b9fN, erN, t1fNrN, u1fNrN, v1fNrN, z1fNrN, ekN, Int.toNat_natCast]); (repeat (first | rw [if_pos (by omega)] | rw [if_neg (by omega)])); (try rfl); (all_goals first | rfl | (simp only [a0fN, a1fN, a2fN, a3fN, a4fN, a5fN, a6fN, a8fN, a9fN]; done) | (congr 2 <;> omega) | ((repeat' split) <;> first | rfl | (simp only [a0fN, a1fN, a2fN, a3fN, a4fN, a5fN, a6fN, a8fN, a9fN]; done) | (exfalso; omega) | (congr 2 <;> omega) | skip))) (by decide) FrXR.rf FrX.rf hI10
theorem c_St_add {d : Nat} {J : Nat → Nat → Int32} {R : Nat → Nat → Option Nat} {L : Nat → Nat → Int64} {sh : Nat → Nat × Nat} {N : Nat} (hS : ShOK sh) (hR : RfOK R) {nS : Nat} (hn : J 6 5 = nI nS) (hn24 : nS < 24) {t f r k q : Int32} : Mt mi_St_add d 0 0 [.ref 6, .int t, .int f, .int r, .int k, .int q] (J, R, L, sh, N) (fun x h2 => x = none ∧ ∃ K0 K1 K2 K3 K4 K, h2 = (K, R, L, sh, N) ∧ K0 = u2 J 7 nS t ∧ K1 = u2 K0 8 nS f ∧ K2 = u2 K1 9 nS r ∧ K3 = u2 K2 10 nS k ∧ K4 = u2 K3 11 nS q ∧ K = u2 K4 6 5 (nI (nS + 1))) := by
  refine Mt.of pn_St (Nat.le_of_ble_eq_true rfl) ?_
  show Run mi_St_add d 0 0 0 [(0, .ref 6), (1, .int t), (2, .int f), (3, .int r), (4, .int k), (5, .int q)] [] (J, R, L, sh, N) _
  refine r_aload_n (x := some 6) (pc2 := 1) d_St_add_0 rfl rfl ?_
  refine q_getI (x := nI nS) (pc2 := 4) d_St_add_1 rfl k_St_27 (by decide) (sh_6 hS) hn ?_
  refine r_bipush (v := nI 24) (pc2 := 6) d_St_add_4 rfl (by decide) ?_
  refine q_icmp_lt (tgt := 10) (A := ((nS : Nat) : Int)) (B := (24 : Int)) (pc2 := 9) d_St_add_6 rfl rfl (nI_toInt (by omega)) (nI_toInt (by omega)) (fun c1 => ?_) (fun c1 => ?_)
  · refine r_aload_n (x := some 6) (pc2 := 11) d_St_add_10 rfl rfl ?_
    refine q_getR (x := some 7) (pc2 := 14) d_St_add_11 rfl k_St_9 rfl (sh_6 hS) (rf_6_0 hR) ?_
    refine r_aload_n (x := some 6) (pc2 := 15) d_St_add_14 rfl rfl ?_
    refine q_getI (x := nI nS) (pc2 := 18) d_St_add_15 rfl k_St_27 (by decide) (sh_6 hS) hn ?_
    refine r_iload_n (pc2 := 19) d_St_add_18 rfl rfl ?_
    refine q_iastore (q := nS) (pc2 := 20) d_St_add_19 rfl (sh_7 hS) (nI_toInt (by omega)) (by omega) (fun I2 hI2 => ?_)
    refine r_aload_n (x := some 6) (pc2 := 21) d_St_add_20 rfl rfl ?_
    refine q_getR (x := some 8) (pc2 := 24) d_St_add_21 rfl k_St_15 rfl (sh_6 hS) (rf_6_1 hR) ?_
    refine r_aload_n (x := some 6) (pc2 := 25) d_St_add_24 rfl rfl ?_
    refine q_getI (x := nI nS) (pc2 := 28) d_St_add_25 rfl k_St_27 (by decide) (sh_6 hS) ((rd_ne hI2 (by decide)).trans (hn)) ?_
    refine r_iload_n (pc2 := 29) d_St_add_28 rfl rfl ?_
    refine q_iastore (q := nS) (pc2 := 30) d_St_add_29 rfl (sh_8 hS) (nI_toInt (by omega)) (by omega) (fun I3 hI3 => ?_)
    refine r_aload_n (x := some 6) (pc2 := 31) d_St_add_30 rfl rfl ?_
    refine q_getR (x := some 9) (pc2 := 34) d_St_add_31 rfl k_St_18 rfl (sh_6 hS) (rf_6_2 hR) ?_
    refine r_aload_n (x := some 6) (pc2 := 35) d_St_add_34 rfl rfl ?_
    refine q_getI (x := nI nS) (pc2 := 38) d_St_add_35 rfl k_St_27 (by decide) (sh_6 hS) ((rd_ne hI3 (by decide)).trans ((rd_ne hI2 (by decide)).trans (hn))) ?_
    refine r_iload_n (pc2 := 39) d_St_add_38 rfl rfl ?_
    refine q_iastore (q := nS) (pc2 := 40) d_St_add_39 rfl (sh_9 hS) (nI_toInt (by omega)) (by omega) (fun I4 hI4 => ?_)
    refine r_aload_n (x := some 6) (pc2 := 41) d_St_add_40 rfl rfl ?_
    refine q_getR (x := some 10) (pc2 := 44) d_St_add_41 rfl k_St_21 rfl (sh_6 hS) (rf_6_3 hR) ?_
    refine r_aload_n (x := some 6) (pc2 := 45) d_St_add_44 rfl rfl ?_
    refine q_getI (x := nI nS) (pc2 := 48) d_St_add_45 rfl k_St_27 (by decide) (sh_6 hS) ((rd_ne hI4 (by decide)).trans ((rd_ne hI3 (by decide)).trans ((rd_ne hI2 (by decide)).trans (hn)))) ?_
    refine r_iload (pc2 := 50) d_St_add_48 rfl rfl ?_
    refine q_iastore (q := nS) (pc2 := 51) d_St_add_50 rfl (sh_10 hS) (nI_toInt (by omega)) (by omega) (fun I5 hI5 => ?_)
    refine r_aload_n (x := some 6) (pc2 := 52) d_St_add_51 rfl rfl ?_
    refine q_getR (x := some 11) (pc2 := 55) d_St_add_52 rfl k_St_24 rfl (sh_6 hS) (rf_6_4 hR) ?_
    refine r_aload_n (x := some 6) (pc2 := 56) d_St_add_55 rfl rfl ?_
    refine q_getI (x := nI nS) (pc2 := 59) d_St_add_56 rfl k_St_27 (by decide) (sh_6 hS) ((rd_ne hI5 (by decide)).trans ((rd_ne hI4 (by decide)).trans ((rd_ne hI3 (by decide)).trans ((rd_ne hI2 (by decide)).trans (hn))))) ?_
    refine r_iload (pc2 := 61) d_St_add_59 rfl rfl ?_
    refine q_iastore (q := nS) (pc2 := 62) d_St_add_61 rfl (sh_11 hS) (nI_toInt (by omega)) (by omega) (fun I6 hI6 => ?_)
    refine r_aload_n (x := some 6) (pc2 := 63) d_St_add_62 rfl rfl ?_
    refine r_dup (pc2 := 64) d_St_add_63 rfl rfl ?_
    refine q_getI (x := nI nS) (pc2 := 67) d_St_add_64 rfl k_St_27 (by decide) (sh_6 hS) ((rd_ne hI6 (by decide)).trans ((rd_ne hI5 (by decide)).trans ((rd_ne hI4 (by decide)).trans ((rd_ne hI3 (by decide)).trans ((rd_ne hI2 (by decide)).trans (hn)))))) ?_
    refine r_iconst (v := nI 1) (pc2 := 68) d_St_add_67 rfl (by decide) ?_
    refine q_iaddN (pc2 := 69) d_St_add_68 rfl ?_
    refine q_putI (pc2 := 72) d_St_add_69 rfl k_St_27 (Or.inl rfl) (sh_6 hS) (Or.inl rfl) (fun I7 hI7 => ?_)
    refine Run.ret none d_St_add_72 rfl ?_
    first | (exfalso; omega) | exact ⟨rfl, _, _, _, _, _, _, rfl, hI2, hI3, hI4, hI5, hI6, hI7⟩
  · refine Run.ret none d_St_add_9 rfl ?_
    exfalso; omega
