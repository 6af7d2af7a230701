/-! THE CLASS: says, show -/
def shZ (F C G : Nat → Int32) (f r q : Int32) : Int32 := shT F C q.toInt (G (174 + 84 * f.toInt.toNat + 60 + 4 * r.toInt.toNat + 0)).toInt.toNat
def shA (K F C G : Nat → Int32) (f r q : Int32) : Int32 := if f.toInt = -1 then -1 else nI 10 + K (shZ F C G f r q).toInt.toNat
theorem sub14 {k : Nat} (hk : 4 ≤ k) : nI 10 + nI k - nI 14 = nI k - nI 4 := by
  rw [nI_add, pk_sub (by omega), pk_sub (by omega)]; congr 1; omega
theorem c_X_says {d : Nat} {I : Nat → Nat → Int32} {R : Nat → Nat → Option Nat} {L : Nat → Nat → Int64} {sh : Nat → Nat × Nat} {N : Nat} (hS : ShOK sh) (hR : RfOK R) {tK tF tC tS : Nat → Int32} {nt : Nat} (hV : TV tK tF tC nt) (hV2 : TV2 tK tF tC tS nt) (hnt6 : nt ≤ 1000000) {G : Nat → Int32} {nP nF nS : Nat} (hW : WFA G nP nF nt) (hWT : WFT G nF nS) (hKW : WFK G nP nF) {rk : Nat → Nat} (hrk : RK G nF rk) (hD : DR tK tF tC tS I R sh nt 0 G nP nF nS) {so sz tz : Nat → Int32} {E : Nat → Int64} (hH : SHR tK tF tC tS I R L sh nt so sz tz E) {s k : Int32} (hd : 40 ≤ d) : Mt mi_X_says d 0 0 [.ref 0, .int s, .int k] (I, R, L, sh, N) (XP I R L sh N (o_says (TRK tK tF tC tS) tK tF tC G nP so tz s k) (fun K _ => FrX sh I K)) := by
  obtain ⟨hPc, hP24, hFc, hF12, hWF, hWP⟩ := id hW
  have hm1 : (-1 : Int32).toInt = -1 := by decide
  refine Mt.of pn_X (Nat.le_of_ble_eq_true rfl) ?_
  show Run mi_X_says d 0 0 0 [(0, .ref 0), (1, .int s), (2, .int k)] [] (I, R, L, sh, N) _
  by_cases h7s : 0 ≤ s.toInt ∧ s.toInt ≤ 7
  · obtain ⟨sN, hsN, rfl, esN⟩ : ∃ a : Nat, a < 8 ∧ s = nI a ∧ s.toInt = (a : Int) := ⟨s.toInt.toNat, by omega, eq_nI (by omega), by omega⟩
    rcases hH sN (by omega) with ⟨ha, h0, h3⟩ | ⟨ha, h0, h1, ⟨zz, hz, hz40⟩, h3, hL⟩ | ⟨cc, mm, bb, nn, h3, hco, hnm, hbm, h0, h4, htz, hso⟩
    · have hrt : rtN (so sN) = -34 := by unfold rtN; rw [if_neg (by omega), if_pos (by omega)]
      refine r_aload_n (x := some 0) (pc2 := 1) d_X_says_0 rfl rfl ?_
      refine r_iload_n (pc2 := 2) d_X_says_1 rfl rfl ?_
      refine q_callv (M2 := mi_X_isShelf) (pc2 := 5) d_X_says_2 rfl k_X_71 cm_X_isShelf cv_X_isShelf (sh_0 hS) (by decide) rfl rfl rfl (Nat.le_of_ble_eq_true rfl) (c_X_isShelf (s := nI sN)) (d2 := d - 1) (by omega) (Nat.le_of_eq (Nat.zero_add _)) (Nat.le_of_eq (Nat.zero_add _)) ?_
      refine q_bif_eq (tgt := 18) (pc2 := 8) d_X_says_5 rfl rfl (fun c1 => ?_) (fun c1 => ?_)
      · refine r_aload_n (x := some 0) (pc2 := 19) d_X_says_18 rfl rfl ?_
        refine r_bipush (v := (-32 : Int32)) (pc2 := 21) d_X_says_19 rfl (by decide) ?_
        refine q_callv (M2 := mi_X_refuse) (pc2 := 24) d_X_says_21 rfl k_X_75 cm_X_refuse cv_X_refuse (sh_0 hS) (by decide) rfl rfl rfl (Nat.le_of_ble_eq_true rfl) (c_X_refuse_0 (J := I) hS hR) (d2 := d - 1) (by omega) (Nat.le_of_eq (Nat.zero_add _)) (Nat.le_of_eq (Nat.zero_add _)) ?_
        obtain ⟨I2, hI2⟩ : ∃ x, x = u2 I 744 0 (I 744 0 + nI 1) := ⟨_, rfl⟩
        rw [← hI2]
        refine Run.ret (some (.int ((-32 : Int32)))) d_X_says_24 ⟨_, rfl⟩ ?_
        first | (exfalso; omega) | exact XP.bad hS 0 (by unfold o_says; (try simp only [esN, Int.toNat_natCast]); (repeat (first | rw [if_pos (by omega)] | rw [if_neg (by omega)]))) (by decide) FrXR.rf FrX.rf hI2
      · refine r_iload_n (pc2 := 9) d_X_says_8 rfl rfl ?_
        refine q_if_lt (tgt := 18) (A := k.toInt) (pc2 := 12) d_X_says_9 rfl rfl (rfl) (fun c3 => ?_) (fun c3 => ?_)
        · refine r_aload_n (x := some 0) (pc2 := 19) d_X_says_18 rfl rfl ?_
          refine r_bipush (v := (-32 : Int32)) (pc2 := 21) d_X_says_19 rfl (by decide) ?_
          refine q_callv (M2 := mi_X_refuse) (pc2 := 24) d_X_says_21 rfl k_X_75 cm_X_refuse cv_X_refuse (sh_0 hS) (by decide) rfl rfl rfl (Nat.le_of_ble_eq_true rfl) (c_X_refuse_0 (J := I) hS hR) (d2 := d - 1) (by omega) (Nat.le_of_eq (Nat.zero_add _)) (Nat.le_of_eq (Nat.zero_add _)) ?_
          obtain ⟨I4, hI4⟩ : ∃ x, x = u2 I 744 0 (I 744 0 + nI 1) := ⟨_, rfl⟩
          rw [← hI4]
          refine Run.ret (some (.int ((-32 : Int32)))) d_X_says_24 ⟨_, rfl⟩ ?_
          first | (exfalso; omega) | exact XP.bad hS 0 (by unfold o_says; (try simp only [esN, Int.toNat_natCast]); (repeat (first | rw [if_pos (by omega)] | rw [if_neg (by omega)]))) (by decide) FrXR.rf FrX.rf hI4
        · refine r_iload_n (pc2 := 13) d_X_says_12 rfl rfl ?_
          refine r_bipush (v := nI 8) (pc2 := 15) d_X_says_13 rfl (by decide) ?_
          refine q_icmp_le (tgt := 25) (A := k.toInt) (B := (8 : Int)) (pc2 := 18) d_X_says_15 rfl rfl (rfl) (nI_toInt (by omega)) (fun c5 => ?_) (fun c5 => ?_)
          · obtain ⟨kN, hkN, rfl, ekN⟩ : ∃ a : Nat, a ≤ 8 ∧ k = nI a ∧ k.toInt = (a : Int) := ⟨k.toInt.toNat, by omega, eq_nI (by omega), by omega⟩
            refine r_aload_n (x := some 0) (pc2 := 26) d_X_says_25 rfl rfl ?_
            refine q_getR (x := some 729) (pc2 := 29) d_X_says_26 rfl k_X_42 rfl (sh_0 hS) (rf_0_7 hR) ?_
            refine r_iload_n (pc2 := 30) d_X_says_29 rfl rfl ?_
            refine q_aaload (q := sN) (x := some (745 + 2 * sN)) (pc2 := 31) d_X_says_30 rfl (sh_729 hS) (by decide) (by decide) (nI_toInt (by omega)) (by omega) ((rf_sf hR (show sN < 8 by omega)).1) ?_
            refine r_astore_n (x := some (745 + 2 * sN)) (pc2 := 32) d_X_says_31 rfl rfl (Nat.le_of_ble_eq_true rfl) ?_
            refine r_aload_n (x := some (745 + 2 * sN)) (pc2 := 33) d_X_says_32 rfl rfl ?_
            refine q_callv (M2 := mi_Sh_hasRow) (pc2 := 36) d_X_says_33 rfl k_X_111 cm_Sh_hasRow cv_Sh_hasRow (sh_sf hS (show sN < 8 by omega)).1 (by decide) rfl rfl rfl (Nat.le_of_ble_eq_true rfl) (c_Sh_hasRow (J := I) (q := 745 + 2 * sN) (sh_sf hS (show sN < 8 by omega)).1 h0) (d2 := d - 1) (by omega) (Nat.le_of_eq (Nat.zero_add _)) (Nat.le_of_eq (Nat.zero_add _)) ?_
            refine q_bif_eq (tgt := 46) (pc2 := 39) d_X_says_36 rfl rfl (fun c6 => ?_) (fun c6 => ?_)
            · refine r_aload_n (x := some (745 + 2 * sN)) (pc2 := 47) d_X_says_46 rfl rfl ?_
              refine q_getR (x := none) (pc2 := 50) d_X_says_47 rfl k_X_147 rfl (sh_sf hS (show sN < 8 by omega)).1 h3 ?_
              refine r_astore (x := none) (pc2 := 52) d_X_says_50 rfl (Nat.le_of_ble_eq_true rfl) ?_
              refine r_aload (x := none) (pc2 := 54) d_X_says_52 rfl rfl ?_
              refine r_ifnonnull (x := none) (tgt := 64) (pc2 := 57) d_X_says_54 rfl rfl (fun a7 ha7 => ?_) (fun ha7 => ?_)
              · first | contradiction | (exfalso; omega)
              · refine r_aload_n (x := some 0) (pc2 := 58) d_X_says_57 rfl rfl ?_
                refine r_bipush (v := (-34 : Int32)) (pc2 := 60) d_X_says_58 rfl (by decide) ?_
                refine q_callv (M2 := mi_X_refuse) (pc2 := 63) d_X_says_60 rfl k_X_75 cm_X_refuse cv_X_refuse (sh_0 hS) (by decide) rfl rfl rfl (Nat.le_of_ble_eq_true rfl) (c_X_refuse_2 (J := I) hS hR) (d2 := d - 1) (by omega) (Nat.le_of_eq (Nat.zero_add _)) (Nat.le_of_eq (Nat.zero_add _)) ?_
                obtain ⟨I8, hI8⟩ : ∃ x, x = u2 I 744 2 (I 744 2 + nI 1) := ⟨_, rfl⟩
                rw [← hI8]
                refine Run.ret (some (.int ((-34 : Int32)))) d_X_says_63 ⟨_, rfl⟩ ?_
                first | (exfalso; omega) | exact XP.bad hS 2 (by unfold o_says; (try simp only [esN, ekN, Int.toNat_natCast]); (repeat (first | rw [if_pos (by omega)] | rw [if_neg (by omega)]))) (by decide) FrXR.rf FrX.rf hI8
            · refine r_aload_n (x := some 0) (pc2 := 40) d_X_says_39 rfl rfl ?_
              refine r_bipush (v := (-33 : Int32)) (pc2 := 42) d_X_says_40 rfl (by decide) ?_
              refine q_callv (M2 := mi_X_refuse) (pc2 := 45) d_X_says_42 rfl k_X_75 cm_X_refuse cv_X_refuse (sh_0 hS) (by decide) rfl rfl rfl (Nat.le_of_ble_eq_true rfl) (c_X_refuse_1 (J := I) hS hR) (d2 := d - 1) (by omega) (Nat.le_of_eq (Nat.zero_add _)) (Nat.le_of_eq (Nat.zero_add _)) ?_
              obtain ⟨I9, hI9⟩ : ∃ x, x = u2 I 744 1 (I 744 1 + nI 1) := ⟨_, rfl⟩
              rw [← hI9]
              refine Run.ret (some (.int ((-33 : Int32)))) d_X_says_45 ⟨_, rfl⟩ ?_
              first | (exfalso; omega) | exact XP.bad hS 1 (by unfold o_says; (try simp only [esN, ekN, Int.toNat_natCast]); (repeat (first | rw [if_pos (by omega)] | rw [if_neg (by omega)]))) (by decide) FrXR.rf FrX.rf hI9
          · refine r_aload_n (x := some 0) (pc2 := 19) d_X_says_18 rfl rfl ?_
            refine r_bipush (v := (-32 : Int32)) (pc2 := 21) d_X_says_19 rfl (by decide) ?_
            refine q_callv (M2 := mi_X_refuse) (pc2 := 24) d_X_says_21 rfl k_X_75 cm_X_refuse cv_X_refuse (sh_0 hS) (by decide) rfl rfl rfl (Nat.le_of_ble_eq_true rfl) (c_X_refuse_0 (J := I) hS hR) (d2 := d - 1) (by omega) (Nat.le_of_eq (Nat.zero_add _)) (Nat.le_of_eq (Nat.zero_add _)) ?_
            obtain ⟨I10, hI10⟩ : ∃ x, x = u2 I 744 0 (I 744 0 + nI 1) := ⟨_, rfl⟩
            rw [← hI10]
            refine Run.ret (some (.int ((-32 : Int32)))) d_X_says_24 ⟨_, rfl⟩ ?_
            first | (exfalso; omega) | exact XP.bad hS 0 (by unfold o_says; (try simp only [esN, Int.toNat_natCast]); (repeat (first | rw [if_pos (by omega)] | rw [if_neg (by omega)]))) (by decide) FrXR.rf FrX.rf hI10
    · have hrt : rtN (so sN) = nI 0 := by unfold rtN; rw [if_neg (by omega), if_neg (by omega)]; rfl
      have hzi : (sz sN).toInt = (zz : Int) := by rw [hz]; exact nI_toInt (by omega)
      refine r_aload_n (x := some 0) (pc2 := 1) d_X_says_0 rfl rfl ?_
      refine r_iload_n (pc2 := 2) d_X_says_1 rfl rfl ?_
      refine q_callv (M2 := mi_X_isShelf) (pc2 := 5) d_X_says_2 rfl k_X_71 cm_X_isShelf cv_X_isShelf (sh_0 hS) (by decide) rfl rfl rfl (Nat.le_of_ble_eq_true rfl) (c_X_isShelf (s := nI sN)) (d2 := d - 1) (by omega) (Nat.le_of_eq (Nat.zero_add _)) (Nat.le_of_eq (Nat.zero_add _)) ?_
      refine q_bif_eq (tgt := 18) (pc2 := 8) d_X_says_5 rfl rfl (fun c11 => ?_) (fun c11 => ?_)
      · refine r_aload_n (x := some 0) (pc2 := 19) d_X_says_18 rfl rfl ?_
        refine r_bipush (v := (-32 : Int32)) (pc2 := 21) d_X_says_19 rfl (by decide) ?_
        refine q_callv (M2 := mi_X_refuse) (pc2 := 24) d_X_says_21 rfl k_X_75 cm_X_refuse cv_X_refuse (sh_0 hS) (by decide) rfl rfl rfl (Nat.le_of_ble_eq_true rfl) (c_X_refuse_0 (J := I) hS hR) (d2 := d - 1) (by omega) (Nat.le_of_eq (Nat.zero_add _)) (Nat.le_of_eq (Nat.zero_add _)) ?_
        obtain ⟨I12, hI12⟩ : ∃ x, x = u2 I 744 0 (I 744 0 + nI 1) := ⟨_, rfl⟩
        rw [← hI12]
        refine Run.ret (some (.int ((-32 : Int32)))) d_X_says_24 ⟨_, rfl⟩ ?_
        first | (exfalso; omega) | exact XP.bad hS 0 (by unfold o_says; (try simp only [esN, hzi, Int.toNat_natCast]); (repeat (first | rw [if_pos (by omega)] | rw [if_neg (by omega)]))) (by decide) FrXR.rf FrX.rf hI12
      · refine r_iload_n (pc2 := 9) d_X_says_8 rfl rfl ?_
        refine q_if_lt (tgt := 18) (A := k.toInt) (pc2 := 12) d_X_says_9 rfl rfl (rfl) (fun c13 => ?_) (fun c13 => ?_)
        · refine r_aload_n (x := some 0) (pc2 := 19) d_X_says_18 rfl rfl ?_
          refine r_bipush (v := (-32 : Int32)) (pc2 := 21) d_X_says_19 rfl (by decide) ?_
          refine q_callv (M2 := mi_X_refuse) (pc2 := 24) d_X_says_21 rfl k_X_75 cm_X_refuse cv_X_refuse (sh_0 hS) (by decide) rfl rfl rfl (Nat.le_of_ble_eq_true rfl) (c_X_refuse_0 (J := I) hS hR) (d2 := d - 1) (by omega) (Nat.le_of_eq (Nat.zero_add _)) (Nat.le_of_eq (Nat.zero_add _)) ?_
          obtain ⟨I14, hI14⟩ : ∃ x, x = u2 I 744 0 (I 744 0 + nI 1) := ⟨_, rfl⟩
          rw [← hI14]
          refine Run.ret (some (.int ((-32 : Int32)))) d_X_says_24 ⟨_, rfl⟩ ?_
          first | (exfalso; omega) | exact XP.bad hS 0 (by unfold o_says; (try simp only [esN, hzi, Int.toNat_natCast]); (repeat (first | rw [if_pos (by omega)] | rw [if_neg (by omega)]))) (by decide) FrXR.rf FrX.rf hI14
        · refine r_iload_n (pc2 := 13) d_X_says_12 rfl rfl ?_
          refine r_bipush (v := nI 8) (pc2 := 15) d_X_says_13 rfl (by decide) ?_
          refine q_icmp_le (tgt := 25) (A := k.toInt) (B := (8 : Int)) (pc2 := 18) d_X_says_15 rfl rfl (rfl) (nI_toInt (by omega)) (fun c15 => ?_) (fun c15 => ?_)
          · obtain ⟨kN, hkN, rfl, ekN⟩ : ∃ a : Nat, a ≤ 8 ∧ k = nI a ∧ k.toInt = (a : Int) := ⟨k.toInt.toNat, by omega, eq_nI (by omega), by omega⟩
            refine r_aload_n (x := some 0) (pc2 := 26) d_X_says_25 rfl rfl ?_
            refine q_getR (x := some 729) (pc2 := 29) d_X_says_26 rfl k_X_42 rfl (sh_0 hS) (rf_0_7 hR) ?_
            refine r_iload_n (pc2 := 30) d_X_says_29 rfl rfl ?_
            refine q_aaload (q := sN) (x := some (745 + 2 * sN)) (pc2 := 31) d_X_says_30 rfl (sh_729 hS) (by decide) (by decide) (nI_toInt (by omega)) (by omega) ((rf_sf hR (show sN < 8 by omega)).1) ?_
            refine r_astore_n (x := some (745 + 2 * sN)) (pc2 := 32) d_X_says_31 rfl rfl (Nat.le_of_ble_eq_true rfl) ?_
            refine r_aload_n (x := some (745 + 2 * sN)) (pc2 := 33) d_X_says_32 rfl rfl ?_
            refine q_callv (M2 := mi_Sh_hasRow) (pc2 := 36) d_X_says_33 rfl k_X_111 cm_Sh_hasRow cv_Sh_hasRow (sh_sf hS (show sN < 8 by omega)).1 (by decide) rfl rfl rfl (Nat.le_of_ble_eq_true rfl) (c_Sh_hasRow (J := I) (q := 745 + 2 * sN) (sh_sf hS (show sN < 8 by omega)).1 h0) (d2 := d - 1) (by omega) (Nat.le_of_eq (Nat.zero_add _)) (Nat.le_of_eq (Nat.zero_add _)) ?_
            refine q_bif_eq (tgt := 46) (pc2 := 39) d_X_says_36 rfl rfl (fun c16 => ?_) (fun c16 => ?_)
            · refine r_aload_n (x := some (745 + 2 * sN)) (pc2 := 47) d_X_says_46 rfl rfl ?_
              refine q_getR (x := none) (pc2 := 50) d_X_says_47 rfl k_X_147 rfl (sh_sf hS (show sN < 8 by omega)).1 h3 ?_
              refine r_astore (x := none) (pc2 := 52) d_X_says_50 rfl (Nat.le_of_ble_eq_true rfl) ?_
              refine r_aload (x := none) (pc2 := 54) d_X_says_52 rfl rfl ?_
              refine r_ifnonnull (x := none) (tgt := 64) (pc2 := 57) d_X_says_54 rfl rfl (fun a17 ha17 => ?_) (fun ha17 => ?_)
              · first | contradiction | (exfalso; omega)
              · refine r_aload_n (x := some 0) (pc2 := 58) d_X_says_57 rfl rfl ?_
                refine r_bipush (v := (-34 : Int32)) (pc2 := 60) d_X_says_58 rfl (by decide) ?_
                refine q_callv (M2 := mi_X_refuse) (pc2 := 63) d_X_says_60 rfl k_X_75 cm_X_refuse cv_X_refuse (sh_0 hS) (by decide) rfl rfl rfl (Nat.le_of_ble_eq_true rfl) (c_X_refuse_2 (J := I) hS hR) (d2 := d - 1) (by omega) (Nat.le_of_eq (Nat.zero_add _)) (Nat.le_of_eq (Nat.zero_add _)) ?_
                obtain ⟨I18, hI18⟩ : ∃ x, x = u2 I 744 2 (I 744 2 + nI 1) := ⟨_, rfl⟩
                rw [← hI18]
                refine Run.ret (some (.int ((-34 : Int32)))) d_X_says_63 ⟨_, rfl⟩ ?_
                first | (exfalso; omega) | exact XP.bad hS 2 (by unfold o_says; (try simp only [esN, hzi, ekN, Int.toNat_natCast]); (repeat (first | rw [if_pos (by omega)] | rw [if_neg (by omega)]))) (by decide) FrXR.rf FrX.rf hI18
            · refine r_aload_n (x := some 0) (pc2 := 40) d_X_says_39 rfl rfl ?_
              refine r_bipush (v := (-33 : Int32)) (pc2 := 42) d_X_says_40 rfl (by decide) ?_
              refine q_callv (M2 := mi_X_refuse) (pc2 := 45) d_X_says_42 rfl k_X_75 cm_X_refuse cv_X_refuse (sh_0 hS) (by decide) rfl rfl rfl (Nat.le_of_ble_eq_true rfl) (c_X_refuse_1 (J := I) hS hR) (d2 := d - 1) (by omega) (Nat.le_of_eq (Nat.zero_add _)) (Nat.le_of_eq (Nat.zero_add _)) ?_
              obtain ⟨I19, hI19⟩ : ∃ x, x = u2 I 744 1 (I 744 1 + nI 1) := ⟨_, rfl⟩
              rw [← hI19]
              refine Run.ret (some (.int ((-33 : Int32)))) d_X_says_45 ⟨_, rfl⟩ ?_
              first | (exfalso; omega) | exact XP.bad hS 1 (by unfold o_says; (try simp only [esN, hzi, ekN, Int.toNat_natCast]); (repeat (first | rw [if_pos (by omega)] | rw [if_neg (by omega)]))) (by decide) FrXR.rf FrX.rf hI19
          · refine r_aload_n (x := some 0) (pc2 := 19) d_X_says_18 rfl rfl ?_
            refine r_bipush (v := (-32 : Int32)) (pc2 := 21) d_X_says_19 rfl (by decide) ?_
            refine q_callv (M2 := mi_X_refuse) (pc2 := 24) d_X_says_21 rfl k_X_75 cm_X_refuse cv_X_refuse (sh_0 hS) (by decide) rfl rfl rfl (Nat.le_of_ble_eq_true rfl) (c_X_refuse_0 (J := I) hS hR) (d2 := d - 1) (by omega) (Nat.le_of_eq (Nat.zero_add _)) (Nat.le_of_eq (Nat.zero_add _)) ?_
            obtain ⟨I20, hI20⟩ : ∃ x, x = u2 I 744 0 (I 744 0 + nI 1) := ⟨_, rfl⟩
            rw [← hI20]
            refine Run.ret (some (.int ((-32 : Int32)))) d_X_says_24 ⟨_, rfl⟩ ?_
            first | (exfalso; omega) | exact XP.bad hS 0 (by unfold o_says; (try simp only [esN, hzi, Int.toNat_natCast]); (repeat (first | rw [if_pos (by omega)] | rw [if_neg (by omega)]))) (by decide) FrXR.rf FrX.rf hI20
    · obtain ⟨ha, hk3, hk8⟩ := SH1.ci hV (show bb + nn < nt by omega) hso
      have hrt : rtN (so sN) = -33 := by unfold rtN; rw [if_pos (by omega)]
      have hmm := hco.2.2.1.2
      refine r_aload_n (x := some 0) (pc2 := 1) d_X_says_0 rfl rfl ?_
      refine r_iload_n (pc2 := 2) d_X_says_1 rfl rfl ?_
      refine q_callv (M2 := mi_X_isShelf) (pc2 := 5) d_X_says_2 rfl k_X_71 cm_X_isShelf cv_X_isShelf (sh_0 hS) (by decide) rfl rfl rfl (Nat.le_of_ble_eq_true rfl) (c_X_isShelf (s := nI sN)) (d2 := d - 1) (by omega) (Nat.le_of_eq (Nat.zero_add _)) (Nat.le_of_eq (Nat.zero_add _)) ?_
      refine q_bif_eq (tgt := 18) (pc2 := 8) d_X_says_5 rfl rfl (fun c21 => ?_) (fun c21 => ?_)
      · refine r_aload_n (x := some 0) (pc2 := 19) d_X_says_18 rfl rfl ?_
        refine r_bipush (v := (-32 : Int32)) (pc2 := 21) d_X_says_19 rfl (by decide) ?_
        refine q_callv (M2 := mi_X_refuse) (pc2 := 24) d_X_says_21 rfl k_X_75 cm_X_refuse cv_X_refuse (sh_0 hS) (by decide) rfl rfl rfl (Nat.le_of_ble_eq_true rfl) (c_X_refuse_0 (J := I) hS hR) (d2 := d - 1) (by omega) (Nat.le_of_eq (Nat.zero_add _)) (Nat.le_of_eq (Nat.zero_add _)) ?_
        obtain ⟨I22, hI22⟩ : ∃ x, x = u2 I 744 0 (I 744 0 + nI 1) := ⟨_, rfl⟩
        rw [← hI22]
        refine Run.ret (some (.int ((-32 : Int32)))) d_X_says_24 ⟨_, rfl⟩ ?_
        first | (exfalso; omega) | exact XP.bad hS 0 (by unfold o_says; (try simp only [esN, Int.toNat_natCast]); (repeat (first | rw [if_pos (by omega)] | rw [if_neg (by omega)]))) (by decide) FrXR.rf FrX.rf hI22
      · refine r_iload_n (pc2 := 9) d_X_says_8 rfl rfl ?_
        refine q_if_lt (tgt := 18) (A := k.toInt) (pc2 := 12) d_X_says_9 rfl rfl (rfl) (fun c23 => ?_) (fun c23 => ?_)
        · refine r_aload_n (x := some 0) (pc2 := 19) d_X_says_18 rfl rfl ?_
          refine r_bipush (v := (-32 : Int32)) (pc2 := 21) d_X_says_19 rfl (by decide) ?_
          refine q_callv (M2 := mi_X_refuse) (pc2 := 24) d_X_says_21 rfl k_X_75 cm_X_refuse cv_X_refuse (sh_0 hS) (by decide) rfl rfl rfl (Nat.le_of_ble_eq_true rfl) (c_X_refuse_0 (J := I) hS hR) (d2 := d - 1) (by omega) (Nat.le_of_eq (Nat.zero_add _)) (Nat.le_of_eq (Nat.zero_add _)) ?_
          obtain ⟨I24, hI24⟩ : ∃ x, x = u2 I 744 0 (I 744 0 + nI 1) := ⟨_, rfl⟩
          rw [← hI24]
          refine Run.ret (some (.int ((-32 : Int32)))) d_X_says_24 ⟨_, rfl⟩ ?_
          first | (exfalso; omega) | exact XP.bad hS 0 (by unfold o_says; (try simp only [esN, Int.toNat_natCast]); (repeat (first | rw [if_pos (by omega)] | rw [if_neg (by omega)]))) (by decide) FrXR.rf FrX.rf hI24
        · refine r_iload_n (pc2 := 13) d_X_says_12 rfl rfl ?_
          refine r_bipush (v := nI 8) (pc2 := 15) d_X_says_13 rfl (by decide) ?_
          refine q_icmp_le (tgt := 25) (A := k.toInt) (B := (8 : Int)) (pc2 := 18) d_X_says_15 rfl rfl (rfl) (nI_toInt (by omega)) (fun c25 => ?_) (fun c25 => ?_)
          · obtain ⟨kN, hkN, rfl, ekN⟩ : ∃ a : Nat, a ≤ 8 ∧ k = nI a ∧ k.toInt = (a : Int) := ⟨k.toInt.toNat, by omega, eq_nI (by omega), by omega⟩
            refine r_aload_n (x := some 0) (pc2 := 26) d_X_says_25 rfl rfl ?_
            refine q_getR (x := some 729) (pc2 := 29) d_X_says_26 rfl k_X_42 rfl (sh_0 hS) (rf_0_7 hR) ?_
            refine r_iload_n (pc2 := 30) d_X_says_29 rfl rfl ?_
            refine q_aaload (q := sN) (x := some (745 + 2 * sN)) (pc2 := 31) d_X_says_30 rfl (sh_729 hS) (by decide) (by decide) (nI_toInt (by omega)) (by omega) ((rf_sf hR (show sN < 8 by omega)).1) ?_
            refine r_astore_n (x := some (745 + 2 * sN)) (pc2 := 32) d_X_says_31 rfl rfl (Nat.le_of_ble_eq_true rfl) ?_
            refine r_aload_n (x := some (745 + 2 * sN)) (pc2 := 33) d_X_says_32 rfl rfl ?_
            refine q_callv (M2 := mi_Sh_hasRow) (pc2 := 36) d_X_says_33 rfl k_X_111 cm_Sh_hasRow cv_Sh_hasRow (sh_sf hS (show sN < 8 by omega)).1 (by decide) rfl rfl rfl (Nat.le_of_ble_eq_true rfl) (c_Sh_hasRow (J := I) (q := 745 + 2 * sN) (sh_sf hS (show sN < 8 by omega)).1 h0) (d2 := d - 1) (by omega) (Nat.le_of_eq (Nat.zero_add _)) (Nat.le_of_eq (Nat.zero_add _)) ?_
            refine q_bif_eq (tgt := 46) (pc2 := 39) d_X_says_36 rfl rfl (fun c26 => ?_) (fun c26 => ?_)
            · refine r_aload_n (x := some (745 + 2 * sN)) (pc2 := 47) d_X_says_46 rfl rfl ?_
              refine q_getR (x := some cc) (pc2 := 50) d_X_says_47 rfl k_X_147 rfl (sh_sf hS (show sN < 8 by omega)).1 h3 ?_
              refine r_astore (x := some cc) (pc2 := 52) d_X_says_50 rfl (Nat.le_of_ble_eq_true rfl) ?_
              refine r_aload (x := some cc) (pc2 := 54) d_X_says_52 rfl rfl ?_
              refine r_ifnonnull (x := some cc) (tgt := 64) (pc2 := 57) d_X_says_54 rfl rfl (fun _ c27 => ?_) (fun c27 => ?_)
              rotate_left
              · cases c27
              refine r_aload (x := some cc) (pc2 := 66) d_X_says_64 rfl rfl ?_
              refine r_aload_n (x := some (745 + 2 * sN)) (pc2 := 67) d_X_says_66 rfl rfl ?_
              refine q_getI (x := nI nn) (pc2 := 70) d_X_says_67 rfl k_X_148 (by decide) (sh_sf hS (show sN < 8 by omega)).1 h4 ?_
              refine q_callv (M2 := mi_Co_kindOf) (pc2 := 73) d_X_says_70 rfl k_X_151 cm_Co_kindOf cv_Co_kindOf hco.1.1 (by decide) rfl rfl rfl (Nat.le_of_ble_eq_true rfl) (c_Co_kindOf (I := I) hco (n := nn) hnm) (d2 := d - 1) (by omega) (Nat.le_of_eq (Nat.zero_add _)) (Nat.le_of_eq (Nat.zero_add _)) ?_
              obtain ⟨κ, eκ, eκi⟩ : ∃ κ : Nat, tK (bb + nn) = nI κ ∧ (tK (bb + nn)).toInt = (κ : Int) := ⟨(tK (bb + nn)).toInt.toNat, eq_nI (Int.toNat_of_nonneg (by omega)).symm, (Int.toNat_of_nonneg (by omega)).symm⟩
              refine q_top (y := nI κ) eκ ?_
              have htzn : (tz sN).toInt.toNat = bb + nn := by rw [htz, nI_toInt (by omega), Int.toNat_natCast]
              refine r_iload_n (pc2 := 74) d_X_says_73 rfl rfl ?_
              refine q_calls (M2 := mi_X_isOfKind) (pc2 := 77) d_X_says_74 rfl k_X_154 cm_X_isOfKind cs_X_isOfKind rfl rfl (Nat.le_of_ble_eq_true rfl) (c_X_isOfKind (x := κ) (by omega) (k := kN) (by omega)) (d2 := d - 1) (by omega) (Nat.le_of_eq (Nat.zero_add _)) (Nat.le_of_eq (Nat.zero_add _)) ?_
              refine q_bif_ne (tgt := 87) (pc2 := 80) d_X_says_77 rfl rfl (fun c28 => ?_) (fun c28 => ?_)
              · rcases (show kN = 0 ∨ kN = 1 ∨ kN = 2 ∨ kN = 3 ∨ kN = 4 ∨ kN = 5 ∨ kN = 6 ∨ kN = 7 ∨ kN = 8 by omega) with rfl | rfl | rfl | rfl | rfl | rfl | rfl | rfl | rfl
                · have hund := c28
                  refine r_aload_n (x := some 0) (pc2 := 88) d_X_says_87 rfl rfl ?_
                  refine r_aload (x := some cc) (pc2 := 90) d_X_says_88 rfl rfl ?_
                  refine r_aload_n (x := some (745 + 2 * sN)) (pc2 := 91) d_X_says_90 rfl rfl ?_
                  refine q_getI (x := nI nn) (pc2 := 94) d_X_says_91 rfl k_X_148 (by decide) (sh_sf hS (show sN < 8 by omega)).1 h4 ?_
                  refine r_iload_n (pc2 := 95) d_X_says_94 rfl rfl ?_
                  refine r_callv (M2 := mi_X_sayingOf) (pc2 := 98) d_X_says_95 rfl k_X_157 cm_X_sayingOf cv_X_sayingOf (sh_0 hS) (by decide) rfl rfl rfl (Nat.le_of_ble_eq_true rfl) (c_X_sayingOf_0 hS hR hV hV2 hnt6 hW hWT hKW hrk hD hco hbm hnm  (d := d - 1) (by omega)) (d2 := d - 1) (by omega) (Nat.le_of_eq (Nat.zero_add _)) (Nat.le_of_eq (Nat.zero_add _)) (fun r2 h2 hq2 => ?_)
                  obtain ⟨K29, rfl, rfl, hK29⟩ := hq2
                  change Run _ _ _ _ _ _ [.int (nI (cnt (trP (TRK tK tF tC tS) G (bb + nn)) nP))] _ _
                  refine Run.ret (some (.int (nI (cnt (trP (TRK tK tF tC tS) G (bb + nn)) nP)))) d_X_says_98 ⟨_, rfl⟩ ?_
                  refine XP.val ?_ FrXR.rf hK29
                  unfold o_says; (try simp only [esN, ekN, htzn, Int.toNat_natCast]); (repeat (first | rw [if_pos (by omega)] | rw [if_neg (by omega)]))
                · have hund := c28
                  refine r_aload_n (x := some 0) (pc2 := 88) d_X_says_87 rfl rfl ?_
                  refine r_aload (x := some cc) (pc2 := 90) d_X_says_88 rfl rfl ?_
                  refine r_aload_n (x := some (745 + 2 * sN)) (pc2 := 91) d_X_says_90 rfl rfl ?_
                  refine q_getI (x := nI nn) (pc2 := 94) d_X_says_91 rfl k_X_148 (by decide) (sh_sf hS (show sN < 8 by omega)).1 h4 ?_
                  refine r_iload_n (pc2 := 95) d_X_says_94 rfl rfl ?_
                  refine r_callv (M2 := mi_X_sayingOf) (pc2 := 98) d_X_says_95 rfl k_X_157 cm_X_sayingOf cv_X_sayingOf (sh_0 hS) (by decide) rfl rfl rfl (Nat.le_of_ble_eq_true rfl) (c_X_sayingOf_1 hS hR hV hV2 hnt6 hW hWT hKW hrk hD hco hbm hnm  (d := d - 1) (by omega)) (d2 := d - 1) (by omega) (Nat.le_of_eq (Nat.zero_add _)) (Nat.le_of_eq (Nat.zero_add _)) (fun r2 h2 hq2 => ?_)
                  obtain ⟨K30, rfl, rfl, hK30⟩ := hq2
                  change Run _ _ _ _ _ _ [.int (tK (bb + nn) - nI 4)] _ _
                  refine Run.ret (some (.int (tK (bb + nn) - nI 4))) d_X_says_98 ⟨_, rfl⟩ ?_
                  refine XP.val ?_ FrXR.rf hK30
                  unfold o_says; (try simp only [esN, ekN, htzn, Int.toNat_natCast]); (repeat (first | rw [if_pos (by omega)] | rw [if_neg (by omega)])); rw [hso, eκ]; exact congrArg Sum.inl (sub14 (by omega))
                · have hund := c28
                  obtain ⟨yN, hy, ey, ec⟩ := (CO.pt hco hnm).2 (by omega)
                  have hcy : (tC (bb + nn)).toInt.toNat = bb + yN := by rw [ec, nI_toInt (by omega), Int.toNat_natCast]
                  refine r_aload_n (x := some 0) (pc2 := 88) d_X_says_87 rfl rfl ?_
                  refine r_aload (x := some cc) (pc2 := 90) d_X_says_88 rfl rfl ?_
                  refine r_aload_n (x := some (745 + 2 * sN)) (pc2 := 91) d_X_says_90 rfl rfl ?_
                  refine q_getI (x := nI nn) (pc2 := 94) d_X_says_91 rfl k_X_148 (by decide) (sh_sf hS (show sN < 8 by omega)).1 h4 ?_
                  refine r_iload_n (pc2 := 95) d_X_says_94 rfl rfl ?_
                  refine r_callv (M2 := mi_X_sayingOf) (pc2 := 98) d_X_says_95 rfl k_X_157 cm_X_sayingOf cv_X_sayingOf (sh_0 hS) (by decide) rfl rfl rfl (Nat.le_of_ble_eq_true rfl) (c_X_sayingOf_2 hS hR hV hV2 hnt6 hW hWT hKW hrk hD hco hbm hnm (by omega) hy ey (d := d - 1) (by omega)) (d2 := d - 1) (by omega) (Nat.le_of_eq (Nat.zero_add _)) (Nat.le_of_eq (Nat.zero_add _)) (fun r2 h2 hq2 => ?_)
                  obtain ⟨K31, rfl, rfl, hK31⟩ := hq2
                  change Run _ _ _ _ _ _ [.int (tK (bb + yN))] _ _
                  refine Run.ret (some (.int (tK (bb + yN)))) d_X_says_98 ⟨_, rfl⟩ ?_
                  refine XP.val ?_ FrXR.rf hK31
                  unfold o_says; (try simp only [esN, ekN, htzn, hcy, Int.toNat_natCast]); (repeat (first | rw [if_pos (by omega)] | rw [if_neg (by omega)]))
                · have hund := c28
                  obtain ⟨xN, hx, ex, ef⟩ := (CO.pt hco hnm).1 (by omega)
                  have hfx : (tF (bb + nn)).toInt.toNat = bb + xN := by rw [ef, nI_toInt (by omega), Int.toNat_natCast]
                  refine r_aload_n (x := some 0) (pc2 := 88) d_X_says_87 rfl rfl ?_
                  refine r_aload (x := some cc) (pc2 := 90) d_X_says_88 rfl rfl ?_
                  refine r_aload_n (x := some (745 + 2 * sN)) (pc2 := 91) d_X_says_90 rfl rfl ?_
                  refine q_getI (x := nI nn) (pc2 := 94) d_X_says_91 rfl k_X_148 (by decide) (sh_sf hS (show sN < 8 by omega)).1 h4 ?_
                  refine r_iload_n (pc2 := 95) d_X_says_94 rfl rfl ?_
                  refine r_callv (M2 := mi_X_sayingOf) (pc2 := 98) d_X_says_95 rfl k_X_157 cm_X_sayingOf cv_X_sayingOf (sh_0 hS) (by decide) rfl rfl rfl (Nat.le_of_ble_eq_true rfl) (c_X_sayingOf_3 hS hR hV hV2 hnt6 hW hWT hKW hrk hD hco hbm hnm (by omega) hx ex (d := d - 1) (by omega)) (d2 := d - 1) (by omega) (Nat.le_of_eq (Nat.zero_add _)) (Nat.le_of_eq (Nat.zero_add _)) (fun r2 h2 hq2 => ?_)
                  obtain ⟨K32, rfl, rfl, hK32⟩ := hq2
                  change Run _ _ _ _ _ _ [.int (tK (bb + xN))] _ _
                  refine Run.ret (some (.int (tK (bb + xN)))) d_X_says_98 ⟨_, rfl⟩ ?_
                  refine XP.val ?_ FrXR.rf hK32
                  unfold o_says; (try simp only [esN, ekN, htzn, hfx, Int.toNat_natCast]); (repeat (first | rw [if_pos (by omega)] | rw [if_neg (by omega)]))
                · have hund := c28
                  refine r_aload_n (x := some 0) (pc2 := 88) d_X_says_87 rfl rfl ?_
                  refine r_aload (x := some cc) (pc2 := 90) d_X_says_88 rfl rfl ?_
                  refine r_aload_n (x := some (745 + 2 * sN)) (pc2 := 91) d_X_says_90 rfl rfl ?_
                  refine q_getI (x := nI nn) (pc2 := 94) d_X_says_91 rfl k_X_148 (by decide) (sh_sf hS (show sN < 8 by omega)).1 h4 ?_
                  refine r_iload_n (pc2 := 95) d_X_says_94 rfl rfl ?_
                  refine r_callv (M2 := mi_X_sayingOf) (pc2 := 98) d_X_says_95 rfl k_X_157 cm_X_sayingOf cv_X_sayingOf (sh_0 hS) (by decide) rfl rfl rfl (Nat.le_of_ble_eq_true rfl) (c_X_sayingOf_4 hS hR hV hV2 hnt6 hW hWT hKW hrk hD hco hbm hnm  (d := d - 1) (by omega)) (d2 := d - 1) (by omega) (Nat.le_of_eq (Nat.zero_add _)) (Nat.le_of_eq (Nat.zero_add _)) (fun r2 h2 hq2 => ?_)
                  obtain ⟨K33, rfl, rfl, hK33⟩ := hq2
                  change Run _ _ _ _ _ _ [.int (nI 1)] _ _
                  refine Run.ret (some (.int (nI 1))) d_X_says_98 ⟨_, rfl⟩ ?_
                  refine XP.val ?_ FrXR.rf hK33
                  unfold o_says; (try simp only [esN, ekN, htzn, Int.toNat_natCast]); (repeat (first | rw [if_pos (by omega)] | rw [if_neg (by omega)]))
                · have hund := c28
                  refine r_aload_n (x := some 0) (pc2 := 88) d_X_says_87 rfl rfl ?_
                  refine r_aload (x := some cc) (pc2 := 90) d_X_says_88 rfl rfl ?_
                  refine r_aload_n (x := some (745 + 2 * sN)) (pc2 := 91) d_X_says_90 rfl rfl ?_
                  refine q_getI (x := nI nn) (pc2 := 94) d_X_says_91 rfl k_X_148 (by decide) (sh_sf hS (show sN < 8 by omega)).1 h4 ?_
                  refine r_iload_n (pc2 := 95) d_X_says_94 rfl rfl ?_
                  refine r_callv (M2 := mi_X_sayingOf) (pc2 := 98) d_X_says_95 rfl k_X_157 cm_X_sayingOf cv_X_sayingOf (sh_0 hS) (by decide) rfl rfl rfl (Nat.le_of_ble_eq_true rfl) (c_X_sayingOf_5 hS hR hV hV2 hnt6 hW hWT hKW hrk hD hco hbm hnm (by omega) (d := d - 1) (by omega)) (d2 := d - 1) (by omega) (Nat.le_of_eq (Nat.zero_add _)) (Nat.le_of_eq (Nat.zero_add _)) (fun r2 h2 hq2 => ?_)
                  obtain ⟨K34, rfl, rfl, hK34⟩ := hq2
                  change Run _ _ _ _ _ _ [.int (nI 10 * tF (bb + nn) + tC (bb + nn))] _ _
                  refine Run.ret (some (.int (nI 10 * tF (bb + nn) + tC (bb + nn)))) d_X_says_98 ⟨_, rfl⟩ ?_
                  refine XP.val ?_ FrXR.rf hK34
                  unfold o_says; (try simp only [esN, ekN, htzn, Int.toNat_natCast]); (repeat (first | rw [if_pos (by omega)] | rw [if_neg (by omega)]))
                · have hund := c28
                  refine r_aload_n (x := some 0) (pc2 := 88) d_X_says_87 rfl rfl ?_
                  refine r_aload (x := some cc) (pc2 := 90) d_X_says_88 rfl rfl ?_
                  refine r_aload_n (x := some (745 + 2 * sN)) (pc2 := 91) d_X_says_90 rfl rfl ?_
                  refine q_getI (x := nI nn) (pc2 := 94) d_X_says_91 rfl k_X_148 (by decide) (sh_sf hS (show sN < 8 by omega)).1 h4 ?_
                  refine r_iload_n (pc2 := 95) d_X_says_94 rfl rfl ?_
                  refine r_callv (M2 := mi_X_sayingOf) (pc2 := 98) d_X_says_95 rfl k_X_157 cm_X_sayingOf cv_X_sayingOf (sh_0 hS) (by decide) rfl rfl rfl (Nat.le_of_ble_eq_true rfl) (c_X_sayingOf_6 hS hR hV hV2 hnt6 hW hWT hKW hrk hD hco hbm hnm (by omega) (d := d - 1) (by omega)) (d2 := d - 1) (by omega) (Nat.le_of_eq (Nat.zero_add _)) (Nat.le_of_eq (Nat.zero_add _)) (fun r2 h2 hq2 => ?_)
                  obtain ⟨K35, rfl, rfl, hK35⟩ := hq2
                  change Run _ _ _ _ _ _ [.int (tC (bb + nn) - tF (bb + nn) + nI 1)] _ _
                  refine Run.ret (some (.int (tC (bb + nn) - tF (bb + nn) + nI 1))) d_X_says_98 ⟨_, rfl⟩ ?_
                  refine XP.val ?_ FrXR.rf hK35
                  unfold o_says; (try simp only [esN, ekN, htzn, Int.toNat_natCast]); (repeat (first | rw [if_pos (by omega)] | rw [if_neg (by omega)]))
                · have hund := c28
                  obtain ⟨xN, hx, ex, ef⟩ := (CO.pt hco hnm).1 (by omega)
                  have hfx : (tF (bb + nn)).toInt.toNat = bb + xN := by rw [ef, nI_toInt (by omega), Int.toNat_natCast]
                  obtain ⟨yN, hy, ey, ec⟩ := (CO.pt hco hnm).2 (by omega)
                  have hcy : (tC (bb + nn)).toInt.toNat = bb + yN := by rw [ec, nI_toInt (by omega), Int.toNat_natCast]
                  refine r_aload_n (x := some 0) (pc2 := 88) d_X_says_87 rfl rfl ?_
                  refine r_aload (x := some cc) (pc2 := 90) d_X_says_88 rfl rfl ?_
                  refine r_aload_n (x := some (745 + 2 * sN)) (pc2 := 91) d_X_says_90 rfl rfl ?_
                  refine q_getI (x := nI nn) (pc2 := 94) d_X_says_91 rfl k_X_148 (by decide) (sh_sf hS (show sN < 8 by omega)).1 h4 ?_
                  refine r_iload_n (pc2 := 95) d_X_says_94 rfl rfl ?_
                  refine r_callv (M2 := mi_X_sayingOf) (pc2 := 98) d_X_says_95 rfl k_X_157 cm_X_sayingOf cv_X_sayingOf (sh_0 hS) (by decide) rfl rfl rfl (Nat.le_of_ble_eq_true rfl) (c_X_sayingOf_7 hS hR hV hV2 hnt6 hW hWT hKW hrk hD hco hbm hnm (by omega) hx ex hy ey (d := d - 1) (by omega)) (d2 := d - 1) (by omega) (Nat.le_of_eq (Nat.zero_add _)) (Nat.le_of_eq (Nat.zero_add _)) (fun r2 h2 hq2 => ?_)
                  obtain ⟨K36, rfl, rfl, hK36⟩ := hq2
                  change Run _ _ _ _ _ _ [.int (nI (cnt (fun p => trP (TRK tK tF tC tS) G (bb + xN) p ^^ trP (TRK tK tF tC tS) G (bb + yN) p) nP))] _ _
                  refine Run.ret (some (.int (nI (cnt (fun p => trP (TRK tK tF tC tS) G (bb + xN) p ^^ trP (TRK tK tF tC tS) G (bb + yN) p) nP)))) d_X_says_98 ⟨_, rfl⟩ ?_
                  refine XP.val ?_ FrXR.rf hK36
                  unfold o_says; (try simp only [esN, ekN, htzn, hfx, hcy, Int.toNat_natCast]); (repeat (first | rw [if_pos (by omega)] | rw [if_neg (by omega)]))
                · have hund := c28
                  obtain ⟨xN, hx, ex, ef⟩ := (CO.pt hco hnm).1 (by omega)
                  have hfx : (tF (bb + nn)).toInt.toNat = bb + xN := by rw [ef, nI_toInt (by omega), Int.toNat_natCast]
                  obtain ⟨yN, hy, ey, ec⟩ := (CO.pt hco hnm).2 (by omega)
                  have hcy : (tC (bb + nn)).toInt.toNat = bb + yN := by rw [ec, nI_toInt (by omega), Int.toNat_natCast]
                  refine r_aload_n (x := some 0) (pc2 := 88) d_X_says_87 rfl rfl ?_
                  refine r_aload (x := some cc) (pc2 := 90) d_X_says_88 rfl rfl ?_
                  refine r_aload_n (x := some (745 + 2 * sN)) (pc2 := 91) d_X_says_90 rfl rfl ?_
                  refine q_getI (x := nI nn) (pc2 := 94) d_X_says_91 rfl k_X_148 (by decide) (sh_sf hS (show sN < 8 by omega)).1 h4 ?_
                  refine r_iload_n (pc2 := 95) d_X_says_94 rfl rfl ?_
                  refine r_callv (M2 := mi_X_sayingOf) (pc2 := 98) d_X_says_95 rfl k_X_157 cm_X_sayingOf cv_X_sayingOf (sh_0 hS) (by decide) rfl rfl rfl (Nat.le_of_ble_eq_true rfl) (c_X_sayingOf_8 hS hR hV hV2 hnt6 hW hWT hKW hrk hD hco hbm hnm (by omega) hx ex hy ey (d := d - 1) (by omega)) (d2 := d - 1) (by omega) (Nat.le_of_eq (Nat.zero_add _)) (Nat.le_of_eq (Nat.zero_add _)) (fun r2 h2 hq2 => ?_)
                  obtain ⟨K37, rfl, rfl, hK37⟩ := hq2
                  change Run _ _ _ _ _ _ [.int (nI (cnt (fun p => trP (TRK tK tF tC tS) G (bb + xN) p && trP (TRK tK tF tC tS) G (bb + yN) p) nP))] _ _
                  refine Run.ret (some (.int (nI (cnt (fun p => trP (TRK tK tF tC tS) G (bb + xN) p && trP (TRK tK tF tC tS) G (bb + yN) p) nP)))) d_X_says_98 ⟨_, rfl⟩ ?_
                  refine XP.val ?_ FrXR.rf hK37
                  unfold o_says; (try simp only [esN, ekN, htzn, hfx, hcy, Int.toNat_natCast]); (repeat (first | rw [if_pos (by omega)] | rw [if_neg (by omega)]))
              · refine r_aload_n (x := some 0) (pc2 := 81) d_X_says_80 rfl rfl ?_
                refine r_bipush (v := (-33 : Int32)) (pc2 := 83) d_X_says_81 rfl (by decide) ?_
                refine q_callv (M2 := mi_X_refuse) (pc2 := 86) d_X_says_83 rfl k_X_75 cm_X_refuse cv_X_refuse (sh_0 hS) (by decide) rfl rfl rfl (Nat.le_of_ble_eq_true rfl) (c_X_refuse_1 (J := I) hS hR) (d2 := d - 1) (by omega) (Nat.le_of_eq (Nat.zero_add _)) (Nat.le_of_eq (Nat.zero_add _)) ?_
                obtain ⟨I38, hI38⟩ : ∃ x, x = u2 I 744 1 (I 744 1 + nI 1) := ⟨_, rfl⟩
                rw [← hI38]
                refine Run.ret (some (.int ((-33 : Int32)))) d_X_says_86 ⟨_, rfl⟩ ?_
                first | (exfalso; omega) | exact XP.bad hS 1 (by unfold o_says; (try simp only [esN, ekN, htzn, Int.toNat_natCast]); (repeat (first | rw [if_pos (by omega)] | rw [if_neg (by omega)]))) (by decide) FrXR.rf FrX.rf hI38
            · refine r_aload_n (x := some 0) (pc2 := 40) d_X_says_39 rfl rfl ?_
              refine r_bipush (v := (-33 : Int32)) (pc2 := 42) d_X_says_40 rfl (by decide) ?_
              refine q_callv (M2 := mi_X_refuse) (pc2 := 45) d_X_says_42 rfl k_X_75 cm_X_refuse cv_X_refuse (sh_0 hS) (by decide) rfl rfl rfl (Nat.le_of_ble_eq_true rfl) (c_X_refuse_1 (J := I) hS hR) (d2 := d - 1) (by omega) (Nat.le_of_eq (Nat.zero_add _)) (Nat.le_of_eq (Nat.zero_add _)) ?_
              obtain ⟨I39, hI39⟩ : ∃ x, x = u2 I 744 1 (I 744 1 + nI 1) := ⟨_, rfl⟩
              rw [← hI39]
              refine Run.ret (some (.int ((-33 : Int32)))) d_X_says_45 ⟨_, rfl⟩ ?_
              first | (exfalso; omega) | exact XP.bad hS 1 (by unfold o_says; (try simp only [esN, ekN, Int.toNat_natCast]); (repeat (first | rw [if_pos (by omega)] | rw [if_neg (by omega)]))) (by decide) FrXR.rf FrX.rf hI39
          · refine r_aload_n (x := some 0) (pc2 := 19) d_X_says_18 rfl rfl ?_
            refine r_bipush (v := (-32 : Int32)) (pc2 := 21) d_X_says_19 rfl (by decide) ?_
            refine q_callv (M2 := mi_X_refuse) (pc2 := 24) d_X_says_21 rfl k_X_75 cm_X_refuse cv_X_refuse (sh_0 hS) (by decide) rfl rfl rfl (Nat.le_of_ble_eq_true rfl) (c_X_refuse_0 (J := I) hS hR) (d2 := d - 1) (by omega) (Nat.le_of_eq (Nat.zero_add _)) (Nat.le_of_eq (Nat.zero_add _)) ?_
            obtain ⟨I40, hI40⟩ : ∃ x, x = u2 I 744 0 (I 744 0 + nI 1) := ⟨_, rfl⟩
            rw [← hI40]
            refine Run.ret (some (.int ((-32 : Int32)))) d_X_says_24 ⟨_, rfl⟩ ?_
            first | (exfalso; omega) | exact XP.bad hS 0 (by unfold o_says; (try simp only [esN, Int.toNat_natCast]); (repeat (first | rw [if_pos (by omega)] | rw [if_neg (by omega)]))) (by decide) FrXR.rf FrX.rf hI40
  · skip
    refine r_aload_n (x := some 0) (pc2 := 1) d_X_says_0 rfl rfl ?_
    refine r_iload_n (pc2 := 2) d_X_says_1 rfl rfl ?_
    refine q_callv (M2 := mi_X_isShelf) (pc2 := 5) d_X_says_2 rfl k_X_71 cm_X_isShelf cv_X_isShelf (sh_0 hS) (by decide) rfl rfl rfl (Nat.le_of_ble_eq_true rfl) (c_X_isShelf (s := s)) (d2 := d - 1) (by omega) (Nat.le_of_eq (Nat.zero_add _)) (Nat.le_of_eq (Nat.zero_add _)) ?_
    refine q_bif_eq (tgt := 18) (pc2 := 8) d_X_says_5 rfl rfl (fun c41 => ?_) (fun c41 => ?_)
    · refine r_aload_n (x := some 0) (pc2 := 19) d_X_says_18 rfl rfl ?_
      refine r_bipush (v := (-32 : Int32)) (pc2 := 21) d_X_says_19 rfl (by decide) ?_
      refine q_callv (M2 := mi_X_refuse) (pc2 := 24) d_X_says_21 rfl k_X_75 cm_X_refuse cv_X_refuse (sh_0 hS) (by decide) rfl rfl rfl (Nat.le_of_ble_eq_true rfl) (c_X_refuse_0 (J := I) hS hR) (d2 := d - 1) (by omega) (Nat.le_of_eq (Nat.zero_add _)) (Nat.le_of_eq (Nat.zero_add _)) ?_
      obtain ⟨I42, hI42⟩ : ∃ x, x = u2 I 744 0 (I 744 0 + nI 1) := ⟨_, rfl⟩
      rw [← hI42]
      refine Run.ret (some (.int ((-32 : Int32)))) d_X_says_24 ⟨_, rfl⟩ ?_
      first | (exfalso; omega) | exact XP.bad hS 0 (by unfold o_says; (try simp only [Int.toNat_natCast]); (repeat (first | rw [if_pos (by omega)] | rw [if_neg (by omega)]))) (by decide) FrXR.rf FrX.rf hI42
    · obtain ⟨sN, hsN, gsN, rfl, esN⟩ := nat_of' (Int.le_refl 0) c41
      refine r_iload_n (pc2 := 9) d_X_says_8 rfl rfl ?_
      refine q_if_lt (tgt := 18) (A := k.toInt) (pc2 := 12) d_X_says_9 rfl rfl (rfl) (fun c43 => ?_) (fun c43 => ?_)
      · refine r_aload_n (x := some 0) (pc2 := 19) d_X_says_18 rfl rfl ?_
        refine r_bipush (v := (-32 : Int32)) (pc2 := 21) d_X_says_19 rfl (by decide) ?_
        refine q_callv (M2 := mi_X_refuse) (pc2 := 24) d_X_says_21 rfl k_X_75 cm_X_refuse cv_X_refuse (sh_0 hS) (by decide) rfl rfl rfl (Nat.le_of_ble_eq_true rfl) (c_X_refuse_0 (J := I) hS hR) (d2 := d - 1) (by omega) (Nat.le_of_eq (Nat.zero_add _)) (Nat.le_of_eq (Nat.zero_add _)) ?_
        obtain ⟨I44, hI44⟩ : ∃ x, x = u2 I 744 0 (I 744 0 + nI 1) := ⟨_, rfl⟩
        rw [← hI44]
        refine Run.ret (some (.int ((-32 : Int32)))) d_X_says_24 ⟨_, rfl⟩ ?_
        first | (exfalso; omega) | exact XP.bad hS 0 (by unfold o_says; (try simp only [esN, Int.toNat_natCast]); (repeat (first | rw [if_pos (by omega)] | rw [if_neg (by omega)]))) (by decide) FrXR.rf FrX.rf hI44
      · refine r_iload_n (pc2 := 13) d_X_says_12 rfl rfl ?_
        refine r_bipush (v := nI 8) (pc2 := 15) d_X_says_13 rfl (by decide) ?_
        refine q_icmp_le (tgt := 25) (A := k.toInt) (B := (8 : Int)) (pc2 := 18) d_X_says_15 rfl rfl (rfl) (nI_toInt (by omega)) (fun c45 => ?_) (fun c45 => ?_)
        · exfalso; omega
        · refine r_aload_n (x := some 0) (pc2 := 19) d_X_says_18 rfl rfl ?_
          refine r_bipush (v := (-32 : Int32)) (pc2 := 21) d_X_says_19 rfl (by decide) ?_
          refine q_callv (M2 := mi_X_refuse) (pc2 := 24) d_X_says_21 rfl k_X_75 cm_X_refuse cv_X_refuse (sh_0 hS) (by decide) rfl rfl rfl (Nat.le_of_ble_eq_true rfl) (c_X_refuse_0 (J := I) hS hR) (d2 := d - 1) (by omega) (Nat.le_of_eq (Nat.zero_add _)) (Nat.le_of_eq (Nat.zero_add _)) ?_
          obtain ⟨I46, hI46⟩ : ∃ x, x = u2 I 744 0 (I 744 0 + nI 1) := ⟨_, rfl⟩
          rw [← hI46]
          refine Run.ret (some (.int ((-32 : Int32)))) d_X_says_24 ⟨_, rfl⟩ ?_
          first | (exfalso; omega) | exact XP.bad hS 0 (by unfold o_says; (try simp only [esN, Int.toNat_natCast]); (repeat (first | rw [if_pos (by omega)] | rw [if_neg (by omega)]))) (by decide) FrXR.rf FrX.rf hI46
theorem c_X_show {d : Nat} {I : Nat → Nat → Int32} {R : Nat → Nat → Option Nat} {L : Nat → Nat → Int64} {sh : Nat → Nat × Nat} {N : Nat} (hS : ShOK sh) (hR : RfOK R) {tK tF tC tS : Nat → Int32} {nt : Nat} (hV : TV tK tF tC nt) (hV2 : TV2 tK tF tC tS nt) (hnt6 : nt ≤ 1000000) {G : Nat → Int32} {nP nF nS : Nat} (hW : WFA G nP nF nt) (hWT : WFT G nF nS) (hKW : WFK G nP nF) {rk : Nat → Nat} (hrk : RK G nF rk) (hD : DR tK tF tC tS I R sh nt 0 G nP nF nS) {s f r q : Int32} (hd : 40 ≤ d) : Mt mi_X_show d 0 0 [.ref 0, .int s, .int f, .int r, .int q] (I, R, L, sh, N) (XH I R L sh N (o_show tK tF tC G nF s f r q) (fun K R' L' => FH s.toInt.toNat I K R R' L L' ∧ ∀ (b : Int32) (E : Nat → Int64), SH1 tK tF tC tS K R' L' sh nt s.toInt.toNat (shA tK tF tC G f r q) b (shZ tF tC G f r q) E)) := by
  obtain ⟨hPc, hP24, hFc, hF12, hWF, hWP⟩ := id hW
  have hm1 : (-1 : Int32).toInt = -1 := by decide
  refine Mt.of pn_X (Nat.le_of_ble_eq_true rfl) ?_
  show Run mi_X_show d 0 0 0 [(0, .ref 0), (1, .int s), (2, .int f), (3, .int r), (4, .int q)] [] (I, R, L, sh, N) _
  refine r_aload_n (x := some 0) (pc2 := 1) d_X_show_0 rfl rfl ?_
  refine r_iload_n (pc2 := 2) d_X_show_1 rfl rfl ?_
  refine q_callv (M2 := mi_X_isShelf) (pc2 := 5) d_X_show_2 rfl k_X_71 cm_X_isShelf cv_X_isShelf (sh_0 hS) (by decide) rfl rfl rfl (Nat.le_of_ble_eq_true rfl) (c_X_isShelf (s := s)) (d2 := d - 1) (by omega) (Nat.le_of_eq (Nat.zero_add _)) (Nat.le_of_eq (Nat.zero_add _)) ?_
  refine q_bif_ne (tgt := 15) (pc2 := 8) d_X_show_5 rfl rfl (fun c1 => ?_) (fun c1 => ?_)
  · obtain ⟨sN, hsN, rfl, esN⟩ : ∃ a : Nat, a < 8 ∧ s = nI a ∧ s.toInt = (a : Int) := ⟨s.toInt.toNat, by omega, eq_nI (by omega), by omega⟩
    refine r_iload_n (pc2 := 16) d_X_show_15 rfl rfl ?_
    refine r_iconst (v := (-1 : Int32)) (pc2 := 17) d_X_show_16 rfl (by decide) ?_
    refine q_icmp_ne (tgt := 31) (A := f.toInt) (B := (-1 : Int)) (pc2 := 20) d_X_show_17 rfl rfl (rfl) (by decide) (fun c2 => ?_) (fun c2 => ?_)
    · refine r_aload_n (x := some 0) (pc2 := 32) d_X_show_31 rfl rfl ?_
      refine r_iload_n (pc2 := 33) d_X_show_32 rfl rfl ?_
      refine r_iload_n (pc2 := 34) d_X_show_33 rfl rfl ?_
      refine q_callv (M2 := mi_X_isRule) (pc2 := 37) d_X_show_34 rfl k_X_122 cm_X_isRule cv_X_isRule (sh_0 hS) (by decide) rfl rfl rfl (Nat.le_of_ble_eq_true rfl) (c_X_isRule (f := f) (r := r) hS hR hV hV2 hnt6 hW hWT hKW hrk hD (by omega)) (d2 := d - 1) (by omega) (Nat.le_of_eq (Nat.zero_add _)) (Nat.le_of_eq (Nat.zero_add _)) ?_
      refine q_bif_ne (tgt := 47) (pc2 := 40) d_X_show_37 rfl rfl (fun c3 => ?_) (fun c3 => ?_)
      · obtain ⟨fN, hfN, rfl, efN⟩ := nat_of c3.1
        obtain ⟨tpfN, klfN, skfN, fbfN, nRfN, nNfN, nOfN, frfN, tofN, ⟨a0fN, b0fN, cc0fN, dd0fN⟩, ⟨a1fN, b1fN, cc1fN, dd1fN⟩, ⟨a2fN, b2fN, cc2fN, dd2fN⟩, ⟨a3fN, b3fN, cc3fN, dd3fN⟩, ⟨a4fN, b4fN, cc4fN, dd4fN⟩, ⟨a5fN, b5fN, cc5fN, dd5fN⟩, ⟨a6fN, b6fN, cc6fN, dd6fN⟩, ⟨a8fN, b8fN, cc8fN, dd8fN⟩, ⟨a9fN, b9fN, cc9fN, dd9fN⟩⟩ := wfn (hWF fN (by omega))
        obtain ⟨-, -, -, -, -, -, -, w7fN, -, -, wNfN, wRfN, wKfN, wOfN⟩ := hWF fN (by omega)
        obtain ⟨⟨x0fN, x1fN, x2fN, x3fN, x4fN, x5fN, x6fN, x7fN, x8fN⟩, xnfN, xofN, xkfN, xcfN, xrfN⟩ := hD.2.2.2.1 fN (by omega)
        have hflfN := fe_lt (e := 0) (by decide) (show fN < 12 by omega)
        unfold dk at hflfN
        simp only [efN, Int.toNat_natCast, b4fN] at c3
        obtain ⟨rN, hrN, rfl, erN⟩ := nat_of c3.2
        obtain ⟨rtfNrN, rafNrN, rbfNrN, rcfNrN, ⟨t0fNrN, t1fNrN, t2fNrN⟩, ⟨u0fNrN, u1fNrN, u2fNrN⟩, ⟨v0fNrN, v1fNrN, v2fNrN⟩, ⟨z0fNrN, z1fNrN, z2fNrN⟩⟩ := wrn (wRfN rN (by omega))
        obtain ⟨rffNrN, rsfNrN, cfNrN, mfNrN, bbfNrN, rrfNrN, cofNrN, bnfNrN, ttfNrN⟩ := xrfN rN (by unfold nRof; rw [b4fN, Int.toNat_natCast]; omega)
        have cmfNrN := cofNrN.2.2.1
        have c781fNrN := cofNrN.2.2.2.1
        refine r_aload_n (x := some 0) (pc2 := 48) d_X_show_47 rfl rfl ?_
        refine r_iload_n (pc2 := 49) d_X_show_48 rfl rfl ?_
        refine r_iload_n (pc2 := 50) d_X_show_49 rfl rfl ?_
        refine q_callv (M2 := mi_X_ruleAt) (pc2 := 53) d_X_show_50 rfl k_X_125 cm_X_ruleAt cv_X_ruleAt (sh_0 hS) (by decide) rfl rfl rfl (Nat.le_of_ble_eq_true rfl) (c_X_ruleAt (I := I) (F := fN) (r := rN) hS hR (by omega) (by omega)) (d2 := d - 1) (by omega) (Nat.le_of_eq (Nat.zero_add _)) (Nat.le_of_eq (Nat.zero_add _)) ?_
        have hrt : rtfNrN = bbfNrN + (mfNrN - 1) := by
          have h := t1fNrN
          rw [ttfNrN, nI_toInt (by omega)] at h; omega
        have hkb := (hV (bbfNrN + (mfNrN - 1)) (by omega)).1
        refine q_getR (x := some cfNrN) (pc2 := 56) d_X_show_53 rfl k_X_129 rfl (sh_ru hS (show 0 < 3 by decide) (show fN < 12 by omega) (show rN < 6 by omega)) rrfNrN ?_
        refine r_astore (x := some cfNrN) (pc2 := 58) d_X_show_56 rfl (Nat.le_of_ble_eq_true rfl) ?_
        refine r_aload (x := some cfNrN) (pc2 := 60) d_X_show_58 rfl rfl ?_
        refine r_ifnonnull (x := some cfNrN) (tgt := 67) (pc2 := 63) d_X_show_60 rfl rfl (fun _ c4 => ?_) (fun c4 => ?_)
        rotate_left
        · cases c4
        refine r_aload (x := some cfNrN) (pc2 := 69) d_X_show_67 rfl rfl ?_
        refine r_aload (x := some cfNrN) (pc2 := 71) d_X_show_69 rfl rfl ?_
        refine q_callv (M2 := mi_Co_root) (pc2 := 74) d_X_show_71 rfl k_X_135 cm_Co_root cv_Co_root cofNrN.1.1 (by decide) rfl rfl rfl (Nat.le_of_ble_eq_true rfl) (c_Co_root (I := I) cofNrN) (d2 := d - 1) (by omega) (Nat.le_of_eq (Nat.zero_add _)) (Nat.le_of_eq (Nat.zero_add _)) ?_
        refine r_iload (pc2 := 76) d_X_show_74 rfl rfl ?_
        refine q_callv (M2 := mi_Co_partOf) (pc2 := 79) d_X_show_76 rfl k_X_140 cm_Co_partOf cv_Co_partOf cofNrN.1.1 (by decide) rfl rfl rfl (Nat.le_of_ble_eq_true rfl) (c_Co_partOf (I := I) hV cofNrN bnfNrN (n := mfNrN - 1) (by omega) (q := q) (d := d - 1) (by omega)) (d2 := d - 1) (by omega) (Nat.le_of_eq (Nat.zero_add _)) (Nat.le_of_eq (Nat.zero_add _)) ?_
        rcases (show q.toInt = 0 ∨ (q.toInt = 1 ∧ ((tK (bbfNrN + (mfNrN - 1))).toInt = 3 ∨ 7 ≤ (tK (bbfNrN + (mfNrN - 1))).toInt)) ∨ (q.toInt = 2 ∧ 7 ≤ (tK (bbfNrN + (mfNrN - 1))).toInt) ∨ (q.toInt ≠ 0 ∧ ¬ (q.toInt = 1 ∧ ((tK (bbfNrN + (mfNrN - 1))).toInt = 3 ∨ 7 ≤ (tK (bbfNrN + (mfNrN - 1))).toInt)) ∧ ¬ (q.toInt = 2 ∧ 7 ≤ (tK (bbfNrN + (mfNrN - 1))).toInt)) by omega) with hq | ⟨hq, hqk⟩ | ⟨hq, hqk⟩ | ⟨hq, hqk, hqk2⟩
        · refine q_top (y := nI (mfNrN - 1)) (pt_0 hq) ?_
          refine r_istore (pc2 := 81) d_X_show_79 rfl (Nat.le_of_ble_eq_true rfl) ?_
          refine r_iload (pc2 := 83) d_X_show_81 rfl rfl ?_
          refine r_iconst (v := (-1 : Int32)) (pc2 := 84) d_X_show_83 rfl (by decide) ?_
          refine q_icmp_ne (tgt := 94) (A := ((mfNrN - 1 : Nat) : Int)) (B := (-1 : Int)) (pc2 := 87) d_X_show_84 rfl rfl (nI_toInt (by omega)) (by decide) (fun c5 => ?_) (fun c5 => ?_)
          rotate_left
          · exfalso; omega
          refine r_aload_n (x := some 0) (pc2 := 95) d_X_show_94 rfl rfl ?_
          refine q_getR (x := some 729) (pc2 := 98) d_X_show_95 rfl k_X_42 rfl (sh_0 hS) (rf_0_7 hR) ?_
          refine r_iload_n (pc2 := 99) d_X_show_98 rfl rfl ?_
          refine q_aaload (q := sN) (x := some (745 + 2 * sN)) (pc2 := 100) d_X_show_99 rfl (sh_729 hS) (by decide) (by decide) (nI_toInt (by omega)) (by omega) ((rf_sf hR (show sN < 8 by omega)).1) ?_
          refine r_aload (x := some cfNrN) (pc2 := 102) d_X_show_100 rfl rfl ?_
          refine r_iload (pc2 := 104) d_X_show_102 rfl rfl ?_
          refine r_callv (M2 := mi_Sh_takeCondition) (pc2 := 107) d_X_show_104 rfl k_X_143 cm_Sh_takeCondition cv_Sh_takeCondition (sh_sf hS (show sN < 8 by omega)).1 (by decide) rfl rfl rfl (Nat.le_of_ble_eq_true rfl) (c_Sh_takeCondition (J := I) (q := 745 + 2 * sN) (sh_sf hS (show sN < 8 by omega)).1 (c := cfNrN) (n := mfNrN - 1) (by omega)) (d2 := d - 1) (by omega) (Nat.le_of_eq (Nat.zero_add _)) (Nat.le_of_eq (Nat.zero_add _)) (fun r2 h2 hq2 => ?_)
          obtain ⟨rfl, K1, K2, K3, K4, R2, R3, rfl, hK1, hK2, hK3, hR2, hR3, hK4⟩ := hq2
          change Run _ _ _ _ _ _ [] _ _
          refine r_iconst (v := nI 1) (pc2 := 108) d_X_show_107 rfl (by decide) ?_
          refine Run.ret (some (.int (nI 1))) d_X_show_108 ⟨_, rfl⟩ ?_
          refine XH.val (by unfold o_show; (try simp only [esN, efN, b0fN, b1fN, b2fN, b3fN, b4fN, b5fN, b6fN, b8fN, b9fN, erN, t1fNrN, u1fNrN, v1fNrN, z1fNrN, hrt, Int.toNat_natCast]); (repeat (first | rw [if_pos (by omega)] | rw [if_neg (by omega)]))) ?_
          have hz : shZ tF tC G (nI fN) (nI rN) q = nI (bbfNrN + (mfNrN - 1)) := by
            unfold shZ shT
            simp only [esN, efN, b0fN, b1fN, b2fN, b3fN, b4fN, b5fN, b6fN, b8fN, b9fN, erN, t1fNrN, u1fNrN, v1fNrN, z1fNrN, hrt, Int.toNat_natCast]
            (repeat (first | rw [if_pos (by omega)] | rw [if_neg (by omega)]))
          have hza : shA tK tF tC G (nI fN) (nI rN) q = nI 10 + tK (bbfNrN + (mfNrN - 1)) := by
            unfold shA
            rw [if_neg (by rw [efN]; omega), hz, nI_toInt (by omega), Int.toNat_natCast]
          rw [esN, Int.toNat_natCast, hz, hza]
          have hRo : ∀ a j, ¬ (a = 745 + 2 * sN ∧ j = 3) → R3 a j = R a j := fun a j q => by
            by_cases y : a = 745 + 2 * sN
            · subst y; rw [rd_nk hR3 (fun e => q ⟨rfl, e⟩), rd_nk hR2 (fun e => q ⟨rfl, e⟩)]
            · rw [rd_ne hR3 y, rd_ne hR2 y]
          have hKo : ∀ a j, a ≠ 745 + 2 * sN → K4 a j = I a j := fun a j q => by rw [rd_ne hK4 q, rd_ne hK3 q, rd_ne hK2 q, rd_ne hK1 q]
          exact ⟨⟨hKo, ⟨hRo, fun h => RfOK_h hsN h hRo⟩, fun _ _ _ => rfl⟩, fun b E => Or.inr (Or.inr ⟨cfNrN, mfNrN, bbfNrN, _, rd_eq hR3, cofNrN.fr (fun a j h1 _ => hKo a j (by omega)) (fun a j h1 => hRo a j (by omega)), (by omega), bnfNrN, by rw [rd_nk hK4 (by decide), rd_nk hK3 (by decide), rd_nk hK2 (by decide), rd_eq hK1], rd_eq hK4, rfl, rfl⟩)⟩
        · obtain ⟨xN, hx, ex, ef⟩ := (CO.pt cofNrN (show mfNrN - 1 < mfNrN by omega)).1 hqk
          refine q_top (y := nI xN) ((pt_1 hq hqk).trans ex) ?_
          refine r_istore (pc2 := 81) d_X_show_79 rfl (Nat.le_of_ble_eq_true rfl) ?_
          refine r_iload (pc2 := 83) d_X_show_81 rfl rfl ?_
          refine r_iconst (v := (-1 : Int32)) (pc2 := 84) d_X_show_83 rfl (by decide) ?_
          refine q_icmp_ne (tgt := 94) (A := ((xN : Nat) : Int)) (B := (-1 : Int)) (pc2 := 87) d_X_show_84 rfl rfl (nI_toInt (by omega)) (by decide) (fun c6 => ?_) (fun c6 => ?_)
          rotate_left
          · exfalso; omega
          refine r_aload_n (x := some 0) (pc2 := 95) d_X_show_94 rfl rfl ?_
          refine q_getR (x := some 729) (pc2 := 98) d_X_show_95 rfl k_X_42 rfl (sh_0 hS) (rf_0_7 hR) ?_
          refine r_iload_n (pc2 := 99) d_X_show_98 rfl rfl ?_
          refine q_aaload (q := sN) (x := some (745 + 2 * sN)) (pc2 := 100) d_X_show_99 rfl (sh_729 hS) (by decide) (by decide) (nI_toInt (by omega)) (by omega) ((rf_sf hR (show sN < 8 by omega)).1) ?_
          refine r_aload (x := some cfNrN) (pc2 := 102) d_X_show_100 rfl rfl ?_
          refine r_iload (pc2 := 104) d_X_show_102 rfl rfl ?_
          refine r_callv (M2 := mi_Sh_takeCondition) (pc2 := 107) d_X_show_104 rfl k_X_143 cm_Sh_takeCondition cv_Sh_takeCondition (sh_sf hS (show sN < 8 by omega)).1 (by decide) rfl rfl rfl (Nat.le_of_ble_eq_true rfl) (c_Sh_takeCondition (J := I) (q := 745 + 2 * sN) (sh_sf hS (show sN < 8 by omega)).1 (c := cfNrN) (n := xN) (by omega)) (d2 := d - 1) (by omega) (Nat.le_of_eq (Nat.zero_add _)) (Nat.le_of_eq (Nat.zero_add _)) (fun r2 h2 hq2 => ?_)
          obtain ⟨rfl, K1, K2, K3, K4, R2, R3, rfl, hK1, hK2, hK3, hR2, hR3, hK4⟩ := hq2
          change Run _ _ _ _ _ _ [] _ _
          refine r_iconst (v := nI 1) (pc2 := 108) d_X_show_107 rfl (by decide) ?_
          refine Run.ret (some (.int (nI 1))) d_X_show_108 ⟨_, rfl⟩ ?_
          refine XH.val (by unfold o_show; (try simp only [esN, efN, b0fN, b1fN, b2fN, b3fN, b4fN, b5fN, b6fN, b8fN, b9fN, erN, t1fNrN, u1fNrN, v1fNrN, z1fNrN, hrt, Int.toNat_natCast]); (repeat (first | rw [if_pos (by omega)] | rw [if_neg (by omega)]))) ?_
          have hz : shZ tF tC G (nI fN) (nI rN) q = nI (bbfNrN + xN) := by
            unfold shZ shT
            simp only [esN, efN, b0fN, b1fN, b2fN, b3fN, b4fN, b5fN, b6fN, b8fN, b9fN, erN, t1fNrN, u1fNrN, v1fNrN, z1fNrN, hrt, Int.toNat_natCast]
            (repeat (first | rw [if_pos (by omega)] | rw [if_neg (by omega)])); exact ef
          have hza : shA tK tF tC G (nI fN) (nI rN) q = nI 10 + tK (bbfNrN + xN) := by
            unfold shA
            rw [if_neg (by rw [efN]; omega), hz, nI_toInt (by omega), Int.toNat_natCast]
          rw [esN, Int.toNat_natCast, hz, hza]
          have hRo : ∀ a j, ¬ (a = 745 + 2 * sN ∧ j = 3) → R3 a j = R a j := fun a j q => by
            by_cases y : a = 745 + 2 * sN
            · subst y; rw [rd_nk hR3 (fun e => q ⟨rfl, e⟩), rd_nk hR2 (fun e => q ⟨rfl, e⟩)]
            · rw [rd_ne hR3 y, rd_ne hR2 y]
          have hKo : ∀ a j, a ≠ 745 + 2 * sN → K4 a j = I a j := fun a j q => by rw [rd_ne hK4 q, rd_ne hK3 q, rd_ne hK2 q, rd_ne hK1 q]
          exact ⟨⟨hKo, ⟨hRo, fun h => RfOK_h hsN h hRo⟩, fun _ _ _ => rfl⟩, fun b E => Or.inr (Or.inr ⟨cfNrN, mfNrN, bbfNrN, _, rd_eq hR3, cofNrN.fr (fun a j h1 _ => hKo a j (by omega)) (fun a j h1 => hRo a j (by omega)), (by omega), bnfNrN, by rw [rd_nk hK4 (by decide), rd_nk hK3 (by decide), rd_nk hK2 (by decide), rd_eq hK1], rd_eq hK4, rfl, rfl⟩)⟩
        · obtain ⟨xN, hx, ex, ef⟩ := (CO.pt cofNrN (show mfNrN - 1 < mfNrN by omega)).2 hqk
          refine q_top (y := nI xN) ((pt_2 hq hqk).trans ex) ?_
          refine r_istore (pc2 := 81) d_X_show_79 rfl (Nat.le_of_ble_eq_true rfl) ?_
          refine r_iload (pc2 := 83) d_X_show_81 rfl rfl ?_
          refine r_iconst (v := (-1 : Int32)) (pc2 := 84) d_X_show_83 rfl (by decide) ?_
          refine q_icmp_ne (tgt := 94) (A := ((xN : Nat) : Int)) (B := (-1 : Int)) (pc2 := 87) d_X_show_84 rfl rfl (nI_toInt (by omega)) (by decide) (fun c7 => ?_) (fun c7 => ?_)
          rotate_left
          · exfalso; omega
          refine r_aload_n (x := some 0) (pc2 := 95) d_X_show_94 rfl rfl ?_
          refine q_getR (x := some 729) (pc2 := 98) d_X_show_95 rfl k_X_42 rfl (sh_0 hS) (rf_0_7 hR) ?_
          refine r_iload_n (pc2 := 99) d_X_show_98 rfl rfl ?_
          refine q_aaload (q := sN) (x := some (745 + 2 * sN)) (pc2 := 100) d_X_show_99 rfl (sh_729 hS) (by decide) (by decide) (nI_toInt (by omega)) (by omega) ((rf_sf hR (show sN < 8 by omega)).1) ?_
          refine r_aload (x := some cfNrN) (pc2 := 102) d_X_show_100 rfl rfl ?_
          refine r_iload (pc2 := 104) d_X_show_102 rfl rfl ?_
          refine r_callv (M2 := mi_Sh_takeCondition) (pc2 := 107) d_X_show_104 rfl k_X_143 cm_Sh_takeCondition cv_Sh_takeCondition (sh_sf hS (show sN < 8 by omega)).1 (by decide) rfl rfl rfl (Nat.le_of_ble_eq_true rfl) (c_Sh_takeCondition (J := I) (q := 745 + 2 * sN) (sh_sf hS (show sN < 8 by omega)).1 (c := cfNrN) (n := xN) (by omega)) (d2 := d - 1) (by omega) (Nat.le_of_eq (Nat.zero_add _)) (Nat.le_of_eq (Nat.zero_add _)) (fun r2 h2 hq2 => ?_)
          obtain ⟨rfl, K1, K2, K3, K4, R2, R3, rfl, hK1, hK2, hK3, hR2, hR3, hK4⟩ := hq2
          change Run _ _ _ _ _ _ [] _ _
          refine r_iconst (v := nI 1) (pc2 := 108) d_X_show_107 rfl (by decide) ?_
          refine Run.ret (some (.int (nI 1))) d_X_show_108 ⟨_, rfl⟩ ?_
          refine XH.val (by unfold o_show; (try simp only [esN, efN, b0fN, b1fN, b2fN, b3fN, b4fN, b5fN, b6fN, b8fN, b9fN, erN, t1fNrN, u1fNrN, v1fNrN, z1fNrN, hrt, Int.toNat_natCast]); (repeat (first | rw [if_pos (by omega)] | rw [if_neg (by omega)]))) ?_
          have hz : shZ tF tC G (nI fN) (nI rN) q = nI (bbfNrN + xN) := by
            unfold shZ shT
            simp only [esN, efN, b0fN, b1fN, b2fN, b3fN, b4fN, b5fN, b6fN, b8fN, b9fN, erN, t1fNrN, u1fNrN, v1fNrN, z1fNrN, hrt, Int.toNat_natCast]
            (repeat (first | rw [if_pos (by omega)] | rw [if_neg (by omega)])); exact ef
          have hza : shA tK tF tC G (nI fN) (nI rN) q = nI 10 + tK (bbfNrN + xN) := by
            unfold shA
            rw [if_neg (by rw [efN]; omega), hz, nI_toInt (by omega), Int.toNat_natCast]
          rw [esN, Int.toNat_natCast, hz, hza]
          have hRo : ∀ a j, ¬ (a = 745 + 2 * sN ∧ j = 3) → R3 a j = R a j := fun a j q => by
            by_cases y : a = 745 + 2 * sN
            · subst y; rw [rd_nk hR3 (fun e => q ⟨rfl, e⟩), rd_nk hR2 (fun e => q ⟨rfl, e⟩)]
            · rw [rd_ne hR3 y, rd_ne hR2 y]
          have hKo : ∀ a j, a ≠ 745 + 2 * sN → K4 a j = I a j := fun a j q => by rw [rd_ne hK4 q, rd_ne hK3 q, rd_ne hK2 q, rd_ne hK1 q]
          exact ⟨⟨hKo, ⟨hRo, fun h => RfOK_h hsN h hRo⟩, fun _ _ _ => rfl⟩, fun b E => Or.inr (Or.inr ⟨cfNrN, mfNrN, bbfNrN, _, rd_eq hR3, cofNrN.fr (fun a j h1 _ => hKo a j (by omega)) (fun a j h1 => hRo a j (by omega)), (by omega), bnfNrN, by rw [rd_nk hK4 (by decide), rd_nk hK3 (by decide), rd_nk hK2 (by decide), rd_eq hK1], rd_eq hK4, rfl, rfl⟩)⟩
        · refine q_top (y := (-1 : Int32)) (pt_n hq hqk hqk2) ?_
          refine r_istore (pc2 := 81) d_X_show_79 rfl (Nat.le_of_ble_eq_true rfl) ?_
          refine r_iload (pc2 := 83) d_X_show_81 rfl rfl ?_
          refine r_iconst (v := (-1 : Int32)) (pc2 := 84) d_X_show_83 rfl (by decide) ?_
          refine q_icmp_ne (tgt := 94) (A := (-1 : Int)) (B := (-1 : Int)) (pc2 := 87) d_X_show_84 rfl rfl (by decide) (by decide) (fun c8 => ?_) (fun c8 => ?_)
          · exfalso; omega
          refine r_aload_n (x := some 0) (pc2 := 88) d_X_show_87 rfl rfl ?_
          refine r_bipush (v := (-32 : Int32)) (pc2 := 90) d_X_show_88 rfl (by decide) ?_
          refine q_callv (M2 := mi_X_refuse) (pc2 := 93) d_X_show_90 rfl k_X_75 cm_X_refuse cv_X_refuse (sh_0 hS) (by decide) rfl rfl rfl (Nat.le_of_ble_eq_true rfl) (c_X_refuse_0 (J := I) hS hR) (d2 := d - 1) (by omega) (Nat.le_of_eq (Nat.zero_add _)) (Nat.le_of_eq (Nat.zero_add _)) ?_
          obtain ⟨I9, hI9⟩ : ∃ x, x = u2 I 744 0 (I 744 0 + nI 1) := ⟨_, rfl⟩
          rw [← hI9]
          refine Run.ret (some (.int ((-32 : Int32)))) d_X_show_93 ⟨_, rfl⟩ ?_
          first | (exfalso; omega) | exact XH.bad hS 0 (by unfold o_show; (try simp only [esN, efN, b0fN, b1fN, b2fN, b3fN, b4fN, b5fN, b6fN, b8fN, b9fN, erN, t1fNrN, u1fNrN, v1fNrN, z1fNrN, hrt, Int.toNat_natCast]); (repeat (first | rw [if_pos (by omega)] | rw [if_neg (by omega)])); (all_goals ((repeat' split) <;> first | rfl | (exfalso; omega)))) (by decide) FrX.rf hI9
      · refine r_aload_n (x := some 0) (pc2 := 41) d_X_show_40 rfl rfl ?_
        refine r_bipush (v := (-32 : Int32)) (pc2 := 43) d_X_show_41 rfl (by decide) ?_
        refine q_callv (M2 := mi_X_refuse) (pc2 := 46) d_X_show_43 rfl k_X_75 cm_X_refuse cv_X_refuse (sh_0 hS) (by decide) rfl rfl rfl (Nat.le_of_ble_eq_true rfl) (c_X_refuse_0 (J := I) hS hR) (d2 := d - 1) (by omega) (Nat.le_of_eq (Nat.zero_add _)) (Nat.le_of_eq (Nat.zero_add _)) ?_
        obtain ⟨I10, hI10⟩ : ∃ x, x = u2 I 744 0 (I 744 0 + nI 1) := ⟨_, rfl⟩
        rw [← hI10]
        refine Run.ret (some (.int ((-32 : Int32)))) d_X_show_46 ⟨_, rfl⟩ ?_
        first | (exfalso; omega) | exact XH.bad hS 0 (by unfold o_show; (try simp only [esN, Int.toNat_natCast]); (repeat (first | rw [if_pos (by omega)] | rw [if_neg (by omega)])); (all_goals ((repeat' split) <;> first | rfl | (exfalso; omega)))) (by decide) FrX.rf hI10
    · refine r_aload_n (x := some 0) (pc2 := 21) d_X_show_20 rfl rfl ?_
      refine q_getR (x := some 729) (pc2 := 24) d_X_show_21 rfl k_X_42 rfl (sh_0 hS) (rf_0_7 hR) ?_
      refine r_iload_n (pc2 := 25) d_X_show_24 rfl rfl ?_
      refine q_aaload (q := sN) (x := some (745 + 2 * sN)) (pc2 := 26) d_X_show_25 rfl (sh_729 hS) (by decide) (by decide) (nI_toInt (by omega)) (by omega) ((rf_sf hR (show sN < 8 by omega)).1) ?_
      refine r_callv (M2 := mi_Sh_clear) (pc2 := 29) d_X_show_26 rfl k_X_119 cm_Sh_clear cv_Sh_clear (sh_sf hS (show sN < 8 by omega)).1 (by decide) rfl rfl rfl (Nat.le_of_ble_eq_true rfl) (c_Sh_clear (J := I) (q := 745 + 2 * sN) (sh_sf hS (show sN < 8 by omega)).1) (d2 := d - 1) (by omega) (Nat.le_of_eq (Nat.zero_add _)) (Nat.le_of_eq (Nat.zero_add _)) (fun r2 h2 hq2 => ?_)
      obtain ⟨rfl, K1, K2, K3, R2, rfl, hK1, hK2, hK3, hR2⟩ := hq2
      change Run _ _ _ _ _ _ [] _ _
      refine r_iconst (v := nI 1) (pc2 := 30) d_X_show_29 rfl (by decide) ?_
      refine Run.ret (some (.int (nI 1))) d_X_show_30 ⟨_, rfl⟩ ?_
      refine XH.val (by unfold o_show; (try simp only [esN, Int.toNat_natCast]); (repeat (first | rw [if_pos (by omega)] | rw [if_neg (by omega)]))) ?_
      rw [esN, Int.toNat_natCast]
      have hRo : ∀ a j, ¬ (a = 745 + 2 * sN ∧ j = 3) → R2 a j = R a j := fun a j q => by
        by_cases y : a = 745 + 2 * sN
        · exact y ▸ rd_nk hR2 (fun e => q ⟨y, e⟩)
        · exact rd_ne hR2 y
      refine ⟨⟨fun a j q => by rw [rd_ne hK3 q, rd_ne hK2 q, rd_ne hK1 q], ⟨hRo, fun h => RfOK_h hsN h hRo⟩, fun _ _ _ => rfl⟩, fun b E => Or.inl ⟨?_, by rw [rd_nk hK3 (by decide), rd_nk hK2 (by decide), rd_eq hK1], rd_eq hR2⟩⟩
      unfold shA; rw [if_pos (by omega)]; exact hm1
  · refine r_aload_n (x := some 0) (pc2 := 9) d_X_show_8 rfl rfl ?_
    refine r_bipush (v := (-32 : Int32)) (pc2 := 11) d_X_show_9 rfl (by decide) ?_
    refine q_callv (M2 := mi_X_refuse) (pc2 := 14) d_X_show_11 rfl k_X_75 cm_X_refuse cv_X_refuse (sh_0 hS) (by decide) rfl rfl rfl (Nat.le_of_ble_eq_true rfl) (c_X_refuse_0 (J := I) hS hR) (d2 := d - 1) (by omega) (Nat.le_of_eq (Nat.zero_add _)) (Nat.le_of_eq (Nat.zero_add _)) ?_
    obtain ⟨I11, hI11⟩ : ∃ x, x = u2 I 744 0 (I 744 0 + nI 1) := ⟨_, rfl⟩
    rw [← hI11]
    refine Run.ret (some (.int ((-32 : Int32)))) d_X_show_14 ⟨_, rfl⟩ ?_
    first | (exfalso; omega) | exact XH.bad hS 0 (by unfold o_show; (try simp only [Int.toNat_natCast]); (repeat (first | rw [if_pos (by omega)] | rw [if_neg (by omega)])); (all_goals ((repeat' split) <;> first | rfl | (exfalso; omega)))) (by decide) FrX.rf hI11
