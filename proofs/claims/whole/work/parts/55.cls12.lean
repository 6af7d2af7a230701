/-! THE CLASS: step, feature, ask -/
theorem WFA_count {G : Nat → Int32} {nP nF nt F k : Nat} {v : Int32} (h : WFA G nP nF nt) (hF : F < nF) (hk : k ≤ 3) : WFA (u1 G (174 + 84 * F + (10 + k)) v) nP nF nt := WFA_one h hF (fun j hj => u1_o (by omega)) (WFF_count (h.2.2.2.2.1 F hF) hk)
theorem WFA_4 {G : Nat → Int32} {nP nF nt : Nat} {v : Int32} (h : WFA G nP nF nt) : WFA (u1 G 4 v) nP nF nt := WFA_head h (fun j hj => u1_o (by omega))
theorem WFT_f {G : Nat → Int32} {nF nS j : Nat} {v : Int32} (h : WFT G nF nS) (hj : 174 ≤ j ∨ j = 4 ∨ j = 3 ∨ j = 5) : WFT (u1 G j v) nF nS := WFT_congr h (fun i hi => u1_o (by omega))
theorem c_X_step {d : Nat} {I : Nat → Nat → Int32} {R : Nat → Nat → Option Nat} {L : Nat → Nat → Int64} {sh : Nat → Nat × Nat} {N : Nat} (hS : ShOK sh) (hR : RfOK R) {tK tF tC tS : Nat → Int32} {nt : Nat} (hV : TV tK tF tC nt) (hV2 : TV2 tK tF tC tS nt) (hnt6 : nt ≤ 1000000) {G : Nat → Int32} {nP nF nS : Nat} (hW : WFA G nP nF nt) (hWT : WFT G nF nS) (hKW : WFK G nP nF) {rk : Nat → Nat} (hrk : RK G nF rk) (hD : DR tK tF tC tS I R sh nt 0 G nP nF nS) {t : Int32} {f : Int32} {s : Int32} {k : Int32} {q : Int32} (hd : 90 ≤ d) : Mt mi_X_step d 0 0 [.ref 0, .int t, .int f, .int s, .int k, .int q] (I, R, L, sh, N) (XD I R L sh N (o_step G nF t f s k q) (PD tK tF tC tS I R sh nt (g_step G nF t f s k q) nP nF (nS + 1))) := by
  obtain ⟨hPc, hP24, hFc, hF12, hWF, hWP⟩ := id hW
  have hS24 := hWT.2.1
  refine Mt.of pn_X (Nat.le_of_ble_eq_true rfl) ?_
  show Run mi_X_step d 0 0 0 [(0, .ref 0), (1, .int t), (2, .int f), (3, .int s), (4, .int k), (5, .int q)] [] (I, R, L, sh, N) _
  have bNS : (G 2).toInt = (nS : Int) := by rw [hWT.1, nI_toInt (by omega)]
  refine r_iload_n (pc2 := 1) d_X_step_0 rfl rfl ?_
  refine r_aload_n (x := some 0) (pc2 := 2) d_X_step_1 rfl rfl ?_
  refine q_getR (x := some 1) (pc2 := 5) d_X_step_2 rfl k_X_12 rfl (sh_0 hS) (rf_0_0 hR) ?_
  refine q_getI (x := G 3) (pc2 := 8) d_X_step_5 rfl k_X_301 (by decide) (sh_1 hS) hD.1.2.2.1 ?_
  refine q_icmp_lt (tgt := 28) (A := t.toInt) (B := (G 3).toInt) (pc2 := 11) d_X_step_8 rfl rfl (rfl) (rfl) (fun c1 => ?_) (fun c1 => ?_)
  · refine r_aload_n (x := some 0) (pc2 := 29) d_X_step_28 rfl rfl ?_
    refine r_bipush (v := (-32 : Int32)) (pc2 := 31) d_X_step_29 rfl (by decide) ?_
    refine q_callv (M2 := mi_X_refuse) (pc2 := 34) d_X_step_31 rfl k_X_75 cm_X_refuse cv_X_refuse (sh_0 hS) (by decide) rfl rfl rfl (Nat.le_of_ble_eq_true rfl) (c_X_refuse_0 (J := I) hS hR) (d2 := d - 1) (by omega) (Nat.le_of_eq (Nat.zero_add _)) (Nat.le_of_eq (Nat.zero_add _)) ?_
    obtain ⟨I2, hI2⟩ : ∃ x, x = u2 I 744 0 (I 744 0 + nI 1) := ⟨_, rfl⟩
    rw [← hI2]
    refine Run.ret (some (.int ((-32 : Int32)))) d_X_step_34 ⟨_, rfl⟩ ?_
    first | (exfalso; omega) | exact XD.bad hS 0 (by (try simp only [bNS, Int.toNat_natCast] at c1); (unfold o_step); (try dsimp only); (try simp only [bNS, Int.toNat_natCast]); (repeat (first | rw [if_pos (by omega)] | rw [if_neg (by omega)])); (try rfl); (all_goals first | rfl | (congr 2 <;> omega) | ((repeat' split) <;> first | rfl | (exfalso; omega) | (congr 2 <;> omega) | skip))) (by decide) FrXR.rf FrX.rf hI2
  · refine r_iload_n (pc2 := 12) d_X_step_11 rfl rfl ?_
    refine r_ldcw (pc2 := 15) d_X_step_12 rfl k_X_304 ?_
    refine q_top (y := nI 1000000) (by decide) ?_
    refine q_icmp_gt (tgt := 28) (A := t.toInt) (B := (1000000 : Int)) (pc2 := 18) d_X_step_15 rfl rfl (rfl) (nI_toInt (by omega)) (fun c3 => ?_) (fun c3 => ?_)
    · refine r_aload_n (x := some 0) (pc2 := 29) d_X_step_28 rfl rfl ?_
      refine r_bipush (v := (-32 : Int32)) (pc2 := 31) d_X_step_29 rfl (by decide) ?_
      refine q_callv (M2 := mi_X_refuse) (pc2 := 34) d_X_step_31 rfl k_X_75 cm_X_refuse cv_X_refuse (sh_0 hS) (by decide) rfl rfl rfl (Nat.le_of_ble_eq_true rfl) (c_X_refuse_0 (J := I) hS hR) (d2 := d - 1) (by omega) (Nat.le_of_eq (Nat.zero_add _)) (Nat.le_of_eq (Nat.zero_add _)) ?_
      obtain ⟨I4, hI4⟩ : ∃ x, x = u2 I 744 0 (I 744 0 + nI 1) := ⟨_, rfl⟩
      rw [← hI4]
      refine Run.ret (some (.int ((-32 : Int32)))) d_X_step_34 ⟨_, rfl⟩ ?_
      first | (exfalso; omega) | exact XD.bad hS 0 (by (try simp only [bNS, Int.toNat_natCast] at c1 c3); (unfold o_step); (try dsimp only); (try simp only [bNS, Int.toNat_natCast]); (repeat (first | rw [if_pos (by omega)] | rw [if_neg (by omega)])); (try rfl); (all_goals first | rfl | (congr 2 <;> omega) | ((repeat' split) <;> first | rfl | (exfalso; omega) | (congr 2 <;> omega) | skip))) (by decide) FrXR.rf FrX.rf hI4
    · refine r_iload_n (pc2 := 19) d_X_step_18 rfl rfl ?_
      refine q_if_lt (tgt := 28) (A := s.toInt) (pc2 := 22) d_X_step_19 rfl rfl (rfl) (fun c5 => ?_) (fun c5 => ?_)
      · refine r_aload_n (x := some 0) (pc2 := 29) d_X_step_28 rfl rfl ?_
        refine r_bipush (v := (-32 : Int32)) (pc2 := 31) d_X_step_29 rfl (by decide) ?_
        refine q_callv (M2 := mi_X_refuse) (pc2 := 34) d_X_step_31 rfl k_X_75 cm_X_refuse cv_X_refuse (sh_0 hS) (by decide) rfl rfl rfl (Nat.le_of_ble_eq_true rfl) (c_X_refuse_0 (J := I) hS hR) (d2 := d - 1) (by omega) (Nat.le_of_eq (Nat.zero_add _)) (Nat.le_of_eq (Nat.zero_add _)) ?_
        obtain ⟨I6, hI6⟩ : ∃ x, x = u2 I 744 0 (I 744 0 + nI 1) := ⟨_, rfl⟩
        rw [← hI6]
        refine Run.ret (some (.int ((-32 : Int32)))) d_X_step_34 ⟨_, rfl⟩ ?_
        first | (exfalso; omega) | exact XD.bad hS 0 (by (try simp only [bNS, Int.toNat_natCast] at c1 c3 c5); (unfold o_step); (try dsimp only); (try simp only [bNS, Int.toNat_natCast]); (repeat (first | rw [if_pos (by omega)] | rw [if_neg (by omega)])); (try rfl); (all_goals first | rfl | (congr 2 <;> omega) | ((repeat' split) <;> first | rfl | (exfalso; omega) | (congr 2 <;> omega) | skip))) (by decide) FrXR.rf FrX.rf hI6
      · refine r_iload_n (pc2 := 23) d_X_step_22 rfl rfl ?_
        refine r_bipush (v := nI 6) (pc2 := 25) d_X_step_23 rfl (by decide) ?_
        refine q_icmp_lt (tgt := 35) (A := s.toInt) (B := (6 : Int)) (pc2 := 28) d_X_step_25 rfl rfl (rfl) (nI_toInt (by omega)) (fun c7 => ?_) (fun c7 => ?_)
        · refine r_aload_n (x := some 0) (pc2 := 36) d_X_step_35 rfl rfl ?_
          refine r_iload_n (pc2 := 37) d_X_step_36 rfl rfl ?_
          refine r_iload (pc2 := 39) d_X_step_37 rfl rfl ?_
          refine q_callv (M2 := mi_X_isVariant) (pc2 := 42) d_X_step_39 rfl k_X_271 cm_X_isVariant cv_X_isVariant (sh_0 hS) (by decide) rfl rfl rfl (Nat.le_of_ble_eq_true rfl) (c_X_isVariant (f := f) (v := k) hS hR hV hV2 hnt6 hW hWT hKW hrk hD (by omega)) (d2 := d - 1) (by omega) (Nat.le_of_eq (Nat.zero_add _)) (Nat.le_of_eq (Nat.zero_add _)) ?_
          refine q_bif_eq (tgt := 59) (pc2 := 45) d_X_step_42 rfl rfl (fun c8 => ?_) (fun c8 => ?_)
          · refine r_aload_n (x := some 0) (pc2 := 60) d_X_step_59 rfl rfl ?_
            refine r_bipush (v := (-32 : Int32)) (pc2 := 62) d_X_step_60 rfl (by decide) ?_
            refine q_callv (M2 := mi_X_refuse) (pc2 := 65) d_X_step_62 rfl k_X_75 cm_X_refuse cv_X_refuse (sh_0 hS) (by decide) rfl rfl rfl (Nat.le_of_ble_eq_true rfl) (c_X_refuse_0 (J := I) hS hR) (d2 := d - 1) (by omega) (Nat.le_of_eq (Nat.zero_add _)) (Nat.le_of_eq (Nat.zero_add _)) ?_
            obtain ⟨I9, hI9⟩ : ∃ x, x = u2 I 744 0 (I 744 0 + nI 1) := ⟨_, rfl⟩
            rw [← hI9]
            refine Run.ret (some (.int ((-32 : Int32)))) d_X_step_65 ⟨_, rfl⟩ ?_
            first | (exfalso; omega) | exact XD.bad hS 0 (by (try simp only [bNS, Int.toNat_natCast] at c1 c3 c5 c7 c8); (unfold o_step); (try dsimp only); (try simp only [bNS, Int.toNat_natCast]); (repeat (first | rw [if_pos (by omega)] | rw [if_neg (by omega)])); (try rfl); (all_goals first | rfl | (congr 2 <;> omega) | ((repeat' split) <;> first | rfl | (exfalso; omega) | (congr 2 <;> omega) | skip))) (by decide) FrXR.rf FrX.rf hI9
          · obtain ⟨fN, hfN, rfl, efN⟩ := nat_of c8.1
            obtain ⟨tpfN, klfN, skfN, fbfN, nRfN, nNfN, nOfN, frfN, tofN, ⟨a0fN, b0fN, cc0fN, dd0fN⟩, ⟨a1fN, b1fN, cc1fN, dd1fN⟩, ⟨a2fN, b2fN, cc2fN, dd2fN⟩, ⟨a3fN, b3fN, cc3fN, dd3fN⟩, ⟨a4fN, b4fN, cc4fN, dd4fN⟩, ⟨a5fN, b5fN, cc5fN, dd5fN⟩, ⟨a6fN, b6fN, cc6fN, dd6fN⟩, ⟨a8fN, b8fN, cc8fN, dd8fN⟩, ⟨a9fN, b9fN, cc9fN, dd9fN⟩⟩ := wfn (hWF fN (by omega))
            obtain ⟨-, -, -, -, -, -, -, w7fN, -, -, wNfN, wRfN, wKfN, wOfN⟩ := hWF fN (by omega)
            obtain ⟨⟨x0fN, x1fN, x2fN, x3fN, x4fN, x5fN, x6fN, x7fN, x8fN⟩, xnfN, xofN, xkfN, xcfN, xrfN⟩ := hD.2.2.2.1 fN (by omega)
            have hflfN := fe_lt (e := 0) (by decide) (show fN < 12 by omega)
            unfold dk at hflfN
            simp only [efN, Int.toNat_natCast, b0fN] at c8
            obtain ⟨kN, hkN, gkN, rfl, ekN⟩ := nat_of' (Int.le_refl 0) c8.2
            refine r_iload (pc2 := 47) d_X_step_45 rfl rfl ?_
            refine q_if_eq (tgt := 59) (A := ((kN : Nat) : Int)) (pc2 := 50) d_X_step_47 rfl rfl (nI_toInt (by omega)) (fun c10 => ?_) (fun c10 => ?_)
            · refine r_aload_n (x := some 0) (pc2 := 60) d_X_step_59 rfl rfl ?_
              refine r_bipush (v := (-32 : Int32)) (pc2 := 62) d_X_step_60 rfl (by decide) ?_
              refine q_callv (M2 := mi_X_refuse) (pc2 := 65) d_X_step_62 rfl k_X_75 cm_X_refuse cv_X_refuse (sh_0 hS) (by decide) rfl rfl rfl (Nat.le_of_ble_eq_true rfl) (c_X_refuse_0 (J := I) hS hR) (d2 := d - 1) (by omega) (Nat.le_of_eq (Nat.zero_add _)) (Nat.le_of_eq (Nat.zero_add _)) ?_
              obtain ⟨I11, hI11⟩ : ∃ x, x = u2 I 744 0 (I 744 0 + nI 1) := ⟨_, rfl⟩
              rw [← hI11]
              refine Run.ret (some (.int ((-32 : Int32)))) d_X_step_65 ⟨_, rfl⟩ ?_
              first | (exfalso; omega) | exact XD.bad hS 0 (by (try simp only [bNS, efN, b0fN, b1fN, b2fN, b3fN, b4fN, b5fN, b6fN, b8fN, b9fN, ekN, Int.toNat_natCast] at c1 c3 c5 c7 c8 c10); (unfold o_step); (try dsimp only); (try simp only [bNS, efN, b0fN, b1fN, b2fN, b3fN, b4fN, b5fN, b6fN, b8fN, b9fN, ekN, Int.toNat_natCast]); (repeat (first | rw [if_pos (by omega)] | rw [if_neg (by omega)])); (try rfl); (all_goals first | rfl | (simp only [a0fN, a1fN, a2fN, a3fN, a4fN, a5fN, a6fN, a8fN, a9fN]; done) | (congr 2 <;> omega) | ((repeat' split) <;> first | rfl | (simp only [a0fN, a1fN, a2fN, a3fN, a4fN, a5fN, a6fN, a8fN, a9fN]; done) | (exfalso; omega) | (congr 2 <;> omega) | skip))) (by decide) FrXR.rf FrX.rf hI11
            · refine r_aload_n (x := some 0) (pc2 := 51) d_X_step_50 rfl rfl ?_
              refine r_iload (pc2 := 53) d_X_step_51 rfl rfl ?_
              refine q_callv (M2 := mi_X_isPart) (pc2 := 56) d_X_step_53 rfl k_X_264 cm_X_isPart cv_X_isPart (sh_0 hS) (by decide) rfl rfl rfl (Nat.le_of_ble_eq_true rfl) (c_X_isPart (s := q)) (d2 := d - 1) (by omega) (Nat.le_of_eq (Nat.zero_add _)) (Nat.le_of_eq (Nat.zero_add _)) ?_
              refine q_bif_ne (tgt := 66) (pc2 := 59) d_X_step_56 rfl rfl (fun c12 => ?_) (fun c12 => ?_)
              · obtain ⟨qN, hqN, gqN, rfl, eqN⟩ := nat_of' (Int.le_refl 0) c12
                refine r_aload_n (x := some 0) (pc2 := 67) d_X_step_66 rfl rfl ?_
                refine q_getR (x := some 1) (pc2 := 70) d_X_step_67 rfl k_X_12 rfl (sh_0 hS) (rf_0_0 hR) ?_
                refine q_getR (x := some 6) (pc2 := 73) d_X_step_70 rfl k_X_305 rfl (sh_1 hS) (rf_1_3 hR) ?_
                refine q_getI (x := nI nS) (pc2 := 76) d_X_step_73 rfl k_X_309 (by decide) (sh_6 hS) hD.1.2.2.2.2.2 ?_
                refine r_bipush (v := nI 24) (pc2 := 78) d_X_step_76 rfl (by decide) ?_
                refine q_icmp_lt (tgt := 88) (A := ((nS : Nat) : Int)) (B := (24 : Int)) (pc2 := 81) d_X_step_78 rfl rfl (nI_toInt (by omega)) (nI_toInt (by omega)) (fun c13 => ?_) (fun c13 => ?_)
                · refine r_aload_n (x := some 0) (pc2 := 89) d_X_step_88 rfl rfl ?_
                  refine q_getR (x := some 1) (pc2 := 92) d_X_step_89 rfl k_X_12 rfl (sh_0 hS) (rf_0_0 hR) ?_
                  refine q_getR (x := some 6) (pc2 := 95) d_X_step_92 rfl k_X_305 rfl (sh_1 hS) (rf_1_3 hR) ?_
                  refine r_iload_n (pc2 := 96) d_X_step_95 rfl rfl ?_
                  refine r_iload_n (pc2 := 97) d_X_step_96 rfl rfl ?_
                  refine r_iload_n (pc2 := 98) d_X_step_97 rfl rfl ?_
                  refine r_iload (pc2 := 100) d_X_step_98 rfl rfl ?_
                  refine r_iload (pc2 := 102) d_X_step_100 rfl rfl ?_
                  refine r_callv (M2 := mi_St_add) (pc2 := 105) d_X_step_102 rfl k_X_312 cm_St_add cv_St_add (sh_6 hS) (by decide) rfl rfl rfl (Nat.le_of_ble_eq_true rfl) (c_St_add (J := I) hS hR (nS := nS) hD.1.2.2.2.2.2 (by omega) (t := t) (f := nI fN) (r := s) (k := nI kN) (q := nI qN)) (d2 := d - 1) (by omega) (Nat.le_of_eq (Nat.zero_add _)) (Nat.le_of_eq (Nat.zero_add _)) (fun r2 h2 hq2 => ?_)
                  obtain ⟨rfl, I14, I15, I16, I17, I18, I19, rfl, hI14, hI15, hI16, hI17, hI18, hI19⟩ := hq2
                  change Run _ _ _ _ _ _ [] _ _
                  refine r_aload_n (x := some 0) (pc2 := 106) d_X_step_105 rfl rfl ?_
                  refine q_getR (x := some 1) (pc2 := 109) d_X_step_106 rfl k_X_12 rfl (sh_0 hS) (rf_0_0 hR) ?_
                  refine q_getR (x := some 6) (pc2 := 112) d_X_step_109 rfl k_X_305 rfl (sh_1 hS) (rf_1_3 hR) ?_
                  refine q_getI (x := nI (nS + 1)) (pc2 := 115) d_X_step_112 rfl k_X_309 (by decide) (sh_6 hS) (rd_eq hI19) ?_
                  refine Run.ret (some (.int (nI (nS + 1)))) d_X_step_115 ⟨_, rfl⟩ ?_
                  first | (exfalso; omega) | exact XD.val (by (try simp only [bNS, efN, b0fN, b1fN, b2fN, b3fN, b4fN, b5fN, b6fN, b8fN, b9fN, ekN, eqN, Int.toNat_natCast] at c1 c3 c5 c7 c8 c10 c12 c13); (unfold o_step); (try dsimp only); (try simp only [bNS, efN, b0fN, b1fN, b2fN, b3fN, b4fN, b5fN, b6fN, b8fN, b9fN, ekN, eqN, Int.toNat_natCast]); (repeat (first | rw [if_pos (by omega)] | rw [if_neg (by omega)])); (try rfl); (all_goals first | rfl | (simp only [a0fN, a1fN, a2fN, a3fN, a4fN, a5fN, a6fN, a8fN, a9fN]; done) | (congr 2 <;> omega) | ((repeat' split) <;> first | rfl | (simp only [a0fN, a1fN, a2fN, a3fN, a4fN, a5fN, a6fN, a8fN, a9fN]; done) | (exfalso; omega) | (congr 2 <;> omega) | skip))) ⟨((((((FrD.rf.put hI14 (Or.inl (by omega))).put hI15 (Or.inl (by omega))).put hI16 (Or.inl (by omega))).put hI17 (Or.inl (by omega))).put hI18 (Or.inl (by omega))).put hI19 (Or.inl (by omega))), FrRD.rf, by (try simp only [bNS, efN, b0fN, b1fN, b2fN, b3fN, b4fN, b5fN, b6fN, b8fN, b9fN, ekN, eqN, Int.toNat_natCast] at c1 c3 c5 c7 c8 c10 c12 c13); (unfold g_step); (try dsimp only); (try simp only [bNS, efN, b0fN, b1fN, b2fN, b3fN, b4fN, b5fN, b6fN, b8fN, b9fN, ekN, eqN, Int.toNat_natCast]); (repeat (first | rw [if_pos (by omega)] | rw [if_neg (by omega)])); exact DR.step hW (by omega) hD hI14 hI15 hI16 hI17 hI18 hI19⟩
                · refine r_aload_n (x := some 0) (pc2 := 82) d_X_step_81 rfl rfl ?_
                  refine r_bipush (v := (-36 : Int32)) (pc2 := 84) d_X_step_82 rfl (by decide) ?_
                  refine q_callv (M2 := mi_X_refuse) (pc2 := 87) d_X_step_84 rfl k_X_75 cm_X_refuse cv_X_refuse (sh_0 hS) (by decide) rfl rfl rfl (Nat.le_of_ble_eq_true rfl) (c_X_refuse_4 (J := I) hS hR) (d2 := d - 1) (by omega) (Nat.le_of_eq (Nat.zero_add _)) (Nat.le_of_eq (Nat.zero_add _)) ?_
                  obtain ⟨I20, hI20⟩ : ∃ x, x = u2 I 744 4 (I 744 4 + nI 1) := ⟨_, rfl⟩
                  rw [← hI20]
                  refine Run.ret (some (.int ((-36 : Int32)))) d_X_step_87 ⟨_, rfl⟩ ?_
                  first | (exfalso; omega) | exact XD.bad hS 4 (by (try simp only [bNS, efN, b0fN, b1fN, b2fN, b3fN, b4fN, b5fN, b6fN, b8fN, b9fN, ekN, eqN, Int.toNat_natCast] at c1 c3 c5 c7 c8 c10 c12 c13); (unfold o_step); (try dsimp only); (try simp only [bNS, efN, b0fN, b1fN, b2fN, b3fN, b4fN, b5fN, b6fN, b8fN, b9fN, ekN, eqN, Int.toNat_natCast]); (repeat (first | rw [if_pos (by omega)] | rw [if_neg (by omega)])); (try rfl); (all_goals first | rfl | (simp only [a0fN, a1fN, a2fN, a3fN, a4fN, a5fN, a6fN, a8fN, a9fN]; done) | (congr 2 <;> omega) | ((repeat' split) <;> first | rfl | (simp only [a0fN, a1fN, a2fN, a3fN, a4fN, a5fN, a6fN, a8fN, a9fN]; done) | (exfalso; omega) | (congr 2 <;> omega) | skip))) (by decide) FrXR.rf FrX.rf hI20
              · refine r_aload_n (x := some 0) (pc2 := 60) d_X_step_59 rfl rfl ?_
                refine r_bipush (v := (-32 : Int32)) (pc2 := 62) d_X_step_60 rfl (by decide) ?_
                refine q_callv (M2 := mi_X_refuse) (pc2 := 65) d_X_step_62 rfl k_X_75 cm_X_refuse cv_X_refuse (sh_0 hS) (by decide) rfl rfl rfl (Nat.le_of_ble_eq_true rfl) (c_X_refuse_0 (J := I) hS hR) (d2 := d - 1) (by omega) (Nat.le_of_eq (Nat.zero_add _)) (Nat.le_of_eq (Nat.zero_add _)) ?_
                obtain ⟨I21, hI21⟩ : ∃ x, x = u2 I 744 0 (I 744 0 + nI 1) := ⟨_, rfl⟩
                rw [← hI21]
                refine Run.ret (some (.int ((-32 : Int32)))) d_X_step_65 ⟨_, rfl⟩ ?_
                first | (exfalso; omega) | exact XD.bad hS 0 (by (try simp only [bNS, efN, b0fN, b1fN, b2fN, b3fN, b4fN, b5fN, b6fN, b8fN, b9fN, ekN, Int.toNat_natCast] at c1 c3 c5 c7 c8 c10 c12); (unfold o_step); (try dsimp only); (try simp only [bNS, efN, b0fN, b1fN, b2fN, b3fN, b4fN, b5fN, b6fN, b8fN, b9fN, ekN, Int.toNat_natCast]); (repeat (first | rw [if_pos (by omega)] | rw [if_neg (by omega)])); (try rfl); (all_goals first | rfl | (simp only [a0fN, a1fN, a2fN, a3fN, a4fN, a5fN, a6fN, a8fN, a9fN]; done) | (congr 2 <;> omega) | ((repeat' split) <;> first | rfl | (simp only [a0fN, a1fN, a2fN, a3fN, a4fN, a5fN, a6fN, a8fN, a9fN]; done) | (exfalso; omega) | (congr 2 <;> omega) | skip))) (by decide) FrXR.rf FrX.rf hI21
        · refine r_aload_n (x := some 0) (pc2 := 29) d_X_step_28 rfl rfl ?_
          refine r_bipush (v := (-32 : Int32)) (pc2 := 31) d_X_step_29 rfl (by decide) ?_
          refine q_callv (M2 := mi_X_refuse) (pc2 := 34) d_X_step_31 rfl k_X_75 cm_X_refuse cv_X_refuse (sh_0 hS) (by decide) rfl rfl rfl (Nat.le_of_ble_eq_true rfl) (c_X_refuse_0 (J := I) hS hR) (d2 := d - 1) (by omega) (Nat.le_of_eq (Nat.zero_add _)) (Nat.le_of_eq (Nat.zero_add _)) ?_
          obtain ⟨I22, hI22⟩ : ∃ x, x = u2 I 744 0 (I 744 0 + nI 1) := ⟨_, rfl⟩
          rw [← hI22]
          refine Run.ret (some (.int ((-32 : Int32)))) d_X_step_34 ⟨_, rfl⟩ ?_
          first | (exfalso; omega) | exact XD.bad hS 0 (by (try simp only [bNS, Int.toNat_natCast] at c1 c3 c5 c7); (unfold o_step); (try dsimp only); (try simp only [bNS, Int.toNat_natCast]); (repeat (first | rw [if_pos (by omega)] | rw [if_neg (by omega)])); (try rfl); (all_goals first | rfl | (congr 2 <;> omega) | ((repeat' split) <;> first | rfl | (exfalso; omega) | (congr 2 <;> omega) | skip))) (by decide) FrXR.rf FrX.rf hI22
theorem c_X_feature {d : Nat} {I : Nat → Nat → Int32} {R : Nat → Nat → Option Nat} {L : Nat → Nat → Int64} {sh : Nat → Nat × Nat} {N : Nat} (hS : ShOK sh) (hR : RfOK R) {tK tF tC tS : Nat → Int32} {nt : Nat} (hV : TV tK tF tC nt) (hV2 : TV2 tK tF tC tS nt) (hnt6 : nt ≤ 1000000) {G : Nat → Int32} {nP nF nS : Nat} (hW : WFA G nP nF nt) (hWT : WFT G nF nS) (hKW : WFK G nP nF) {rk : Nat → Nat} (hrk : RK G nF rk) (hD : DR tK tF tC tS I R sh nt 0 G nP nF nS) {n : Int32} (hd : 90 ≤ d) : Mt mi_X_feature d 0 0 [.ref 0, .int n] (I, R, L, sh, N) (XD I R L sh N (o_feature nF n) (PD tK tF tC tS I R sh nt (g_feature G nF n) nP (nF + 1) nS)) := by
  obtain ⟨hPc, hP24, hFc, hF12, hWF, hWP⟩ := id hW
  have hS24 := hWT.2.1
  refine Mt.of pn_X (Nat.le_of_ble_eq_true rfl) ?_
  show Run mi_X_feature d 0 0 0 [(0, .ref 0), (1, .int n)] [] (I, R, L, sh, N) _
  refine r_iload_n (pc2 := 1) d_X_feature_0 rfl rfl ?_
  refine r_iconst (v := nI 1) (pc2 := 2) d_X_feature_1 rfl (by decide) ?_
  refine q_icmp_lt (tgt := 10) (A := n.toInt) (B := (1 : Int)) (pc2 := 5) d_X_feature_2 rfl rfl (rfl) (nI_toInt (by omega)) (fun c1 => ?_) (fun c1 => ?_)
  · refine r_aload_n (x := some 0) (pc2 := 11) d_X_feature_10 rfl rfl ?_
    refine r_bipush (v := (-32 : Int32)) (pc2 := 13) d_X_feature_11 rfl (by decide) ?_
    refine q_callv (M2 := mi_X_refuse) (pc2 := 16) d_X_feature_13 rfl k_X_75 cm_X_refuse cv_X_refuse (sh_0 hS) (by decide) rfl rfl rfl (Nat.le_of_ble_eq_true rfl) (c_X_refuse_0 (J := I) hS hR) (d2 := d - 1) (by omega) (Nat.le_of_eq (Nat.zero_add _)) (Nat.le_of_eq (Nat.zero_add _)) ?_
    obtain ⟨I2, hI2⟩ : ∃ x, x = u2 I 744 0 (I 744 0 + nI 1) := ⟨_, rfl⟩
    rw [← hI2]
    refine Run.ret (some (.int ((-32 : Int32)))) d_X_feature_16 ⟨_, rfl⟩ ?_
    exact XD.bad hS 0 (by (unfold o_feature); (try dsimp only); (try simp only [Int.toNat_natCast]); (repeat (first | rw [if_pos (by omega)] | rw [if_neg (by omega)])); (try rfl); (all_goals first | rfl | (congr 2 <;> omega) | ((repeat' split) <;> first | rfl | (exfalso; omega) | (congr 2 <;> omega) | skip))) (by decide) FrXR.rf FrX.rf hI2
  · refine r_iload_n (pc2 := 6) d_X_feature_5 rfl rfl ?_
    refine r_iconst (v := nI 3) (pc2 := 7) d_X_feature_6 rfl (by decide) ?_
    refine q_icmp_le (tgt := 17) (A := n.toInt) (B := (3 : Int)) (pc2 := 10) d_X_feature_7 rfl rfl (rfl) (nI_toInt (by omega)) (fun c3 => ?_) (fun c3 => ?_)
    · refine r_aload_n (x := some 0) (pc2 := 18) d_X_feature_17 rfl rfl ?_
      refine q_getR (x := some 1) (pc2 := 21) d_X_feature_18 rfl k_X_12 rfl (sh_0 hS) (rf_0_0 hR) ?_
      refine q_getI (x := nI nF) (pc2 := 24) d_X_feature_21 rfl k_X_208 (by decide) (sh_1 hS) hD.1.2.1 ?_
      refine r_bipush (v := nI 12) (pc2 := 26) d_X_feature_24 rfl (by decide) ?_
      refine q_icmp_lt (tgt := 36) (A := ((nF : Nat) : Int)) (B := (12 : Int)) (pc2 := 29) d_X_feature_26 rfl rfl (nI_toInt (by omega)) (nI_toInt (by omega)) (fun c4 => ?_) (fun c4 => ?_)
      · refine r_aload_n (x := some 0) (pc2 := 37) d_X_feature_36 rfl rfl ?_
        refine q_getR (x := some 1) (pc2 := 40) d_X_feature_37 rfl k_X_12 rfl (sh_0 hS) (rf_0_0 hR) ?_
        refine q_getI (x := nI nF) (pc2 := 43) d_X_feature_40 rfl k_X_208 (by decide) (sh_1 hS) hD.1.2.1 ?_
        refine r_istore_n (pc2 := 44) d_X_feature_43 rfl rfl (Nat.le_of_ble_eq_true rfl) ?_
        have hfln := fe_lt (e := 0) (by decide) (show nF < 12 by omega)
        unfold dk at hfln
        refine r_aload_n (x := some 0) (pc2 := 45) d_X_feature_44 rfl rfl ?_
        refine q_getR (x := some 1) (pc2 := 48) d_X_feature_45 rfl k_X_12 rfl (sh_0 hS) (rf_0_0 hR) ?_
        refine q_getR (x := some 5) (pc2 := 51) d_X_feature_48 rfl k_X_211 rfl (sh_1 hS) (rf_1_1 hR) ?_
        refine r_iload_n (pc2 := 52) d_X_feature_51 rfl rfl ?_
        refine q_aaload (q := nF) (x := some (fe 0 nF)) (pc2 := 53) d_X_feature_52 rfl (sh_5 hS) (by decide) (by decide) (nI_toInt (by omega)) (by omega) (rf_fe hR (show 0 < 3 by decide) (show nF < 12 by omega)) ?_
        refine r_iload_n (pc2 := 54) d_X_feature_53 rfl rfl ?_
        refine q_putI (pc2 := 57) d_X_feature_54 rfl k_X_215 (Or.inl rfl) (sh_fe0 hS (show 0 < 3 by decide) (show nF < 12 by omega)) (Or.inl rfl) (fun I5 hI5 => ?_)
        refine r_aload_n (x := some 0) (pc2 := 58) d_X_feature_57 rfl rfl ?_
        refine q_getR (x := some 1) (pc2 := 61) d_X_feature_58 rfl k_X_12 rfl (sh_0 hS) (rf_0_0 hR) ?_
        refine r_dup (pc2 := 62) d_X_feature_61 rfl rfl ?_
        refine q_getI (x := nI nF) (pc2 := 65) d_X_feature_62 rfl k_X_208 (by decide) (sh_1 hS) ((rd_ne hI5 (by unfold fe; omega)).trans (hD.1.2.1)) ?_
        refine r_iconst (v := nI 1) (pc2 := 66) d_X_feature_65 rfl (by decide) ?_
        refine q_iaddN (pc2 := 67) d_X_feature_66 rfl ?_
        refine q_putI (pc2 := 70) d_X_feature_67 rfl k_X_208 (Or.inl rfl) (sh_1 hS) (Or.inl rfl) (fun I6 hI6 => ?_)
        refine r_iload_n (pc2 := 71) d_X_feature_70 rfl rfl ?_
        refine Run.ret (some (.int (nI nF))) d_X_feature_71 ⟨_, rfl⟩ ?_
        exact XD.val (by (unfold o_feature); (try dsimp only); (try simp only [Int.toNat_natCast]); (repeat (first | rw [if_pos (by omega)] | rw [if_neg (by omega)])); (try rfl); (all_goals first | rfl | (congr 2 <;> omega) | ((repeat' split) <;> first | rfl | (exfalso; omega) | (congr 2 <;> omega) | skip))) ⟨((FrD.rf.put hI5 (Or.inl (by first | omega | (unfold ru; omega)))).put hI6 (Or.inl (by omega))), FrRD.rf, by (unfold g_feature); (try dsimp only); (try simp only [Int.toNat_natCast]); (repeat (first | rw [if_pos (by omega)] | rw [if_neg (by omega)])); exact DR.feature hW hWT (by omega) hD hI5 hI6⟩
      · refine r_aload_n (x := some 0) (pc2 := 30) d_X_feature_29 rfl rfl ?_
        refine r_bipush (v := (-36 : Int32)) (pc2 := 32) d_X_feature_30 rfl (by decide) ?_
        refine q_callv (M2 := mi_X_refuse) (pc2 := 35) d_X_feature_32 rfl k_X_75 cm_X_refuse cv_X_refuse (sh_0 hS) (by decide) rfl rfl rfl (Nat.le_of_ble_eq_true rfl) (c_X_refuse_4 (J := I) hS hR) (d2 := d - 1) (by omega) (Nat.le_of_eq (Nat.zero_add _)) (Nat.le_of_eq (Nat.zero_add _)) ?_
        obtain ⟨I7, hI7⟩ : ∃ x, x = u2 I 744 4 (I 744 4 + nI 1) := ⟨_, rfl⟩
        rw [← hI7]
        refine Run.ret (some (.int ((-36 : Int32)))) d_X_feature_35 ⟨_, rfl⟩ ?_
        exact XD.bad hS 4 (by (unfold o_feature); (try dsimp only); (try simp only [Int.toNat_natCast]); (repeat (first | rw [if_pos (by omega)] | rw [if_neg (by omega)])); (try rfl); (all_goals first | rfl | (congr 2 <;> omega) | ((repeat' split) <;> first | rfl | (exfalso; omega) | (congr 2 <;> omega) | skip))) (by decide) FrXR.rf FrX.rf hI7
    · refine r_aload_n (x := some 0) (pc2 := 11) d_X_feature_10 rfl rfl ?_
      refine r_bipush (v := (-32 : Int32)) (pc2 := 13) d_X_feature_11 rfl (by decide) ?_
      refine q_callv (M2 := mi_X_refuse) (pc2 := 16) d_X_feature_13 rfl k_X_75 cm_X_refuse cv_X_refuse (sh_0 hS) (by decide) rfl rfl rfl (Nat.le_of_ble_eq_true rfl) (c_X_refuse_0 (J := I) hS hR) (d2 := d - 1) (by omega) (Nat.le_of_eq (Nat.zero_add _)) (Nat.le_of_eq (Nat.zero_add _)) ?_
      obtain ⟨I8, hI8⟩ : ∃ x, x = u2 I 744 0 (I 744 0 + nI 1) := ⟨_, rfl⟩
      rw [← hI8]
      refine Run.ret (some (.int ((-32 : Int32)))) d_X_feature_16 ⟨_, rfl⟩ ?_
      exact XD.bad hS 0 (by (unfold o_feature); (try dsimp only); (try simp only [Int.toNat_natCast]); (repeat (first | rw [if_pos (by omega)] | rw [if_neg (by omega)])); (try rfl); (all_goals first | rfl | (congr 2 <;> omega) | ((repeat' split) <;> first | rfl | (exfalso; omega) | (congr 2 <;> omega) | skip))) (by decide) FrXR.rf FrX.rf hI8
theorem c_Fe_count {d : Nat} {J : Nat → Nat → Int32} {R : Nat → Nat → Option Nat} {L : Nat → Nat → Int64} {sh : Nat → Nat × Nat} {N : Nat} (hS : ShOK sh) (hR : RfOK R) {F : Nat} (hF : F < 12) {v : Nat} (hv : v ≤ 3) : Mt mi_Fe_count d 0 0 [.ref (fe 0 F), .int (nI v)] (J, R, L, sh, N) (fun r h2 => r = none ∧ ∃ K, h2 = (K, R, L, sh, N) ∧ K = u2 J (fe 0 F + 6) v (J (fe 0 F + 6) v + nI 1)) := by
  refine Mt.of pn_Fe (Nat.le_of_ble_eq_true rfl) ?_
  show Run mi_Fe_count d 0 0 0 [(0, .ref (fe 0 F)), (1, .int (nI v))] [] (J, R, L, sh, N) _
  refine r_iload_n (pc2 := 1) d_Fe_count_0 rfl rfl ?_
  refine q_if_lt (tgt := 19) (A := ((v : Nat) : Int)) (pc2 := 4) d_Fe_count_1 rfl rfl (nI_toInt (by omega)) (fun c1 => ?_) (fun c1 => ?_)
  · exfalso; omega
  refine r_iload_n (pc2 := 5) d_Fe_count_4 rfl rfl ?_
  refine r_iconst (v := nI 3) (pc2 := 6) d_Fe_count_5 rfl (by decide) ?_
  refine q_icmp_gt (tgt := 19) (A := ((v : Nat) : Int)) (B := (3 : Int)) (pc2 := 9) d_Fe_count_6 rfl rfl (nI_toInt (by omega)) (nI_toInt (by omega)) (fun c2 => ?_) (fun c2 => ?_)
  · refine Run.ret none d_Fe_count_19 rfl ?_
    exfalso; omega
  · refine r_aload_n (x := some (fe 0 F)) (pc2 := 10) d_Fe_count_9 rfl rfl ?_
    refine q_getR (x := some (fe 0 F + 6)) (pc2 := 13) d_Fe_count_10 rfl k_Fe_49 rfl (sh_fe0 hS (show 0 < 3 by decide) hF) (rf_fe_11 hR (show 0 < 3 by decide) hF) ?_
    refine r_iload_n (pc2 := 14) d_Fe_count_13 rfl rfl ?_
    refine r_dup2 (pc2 := 15) d_Fe_count_14 rfl rfl rfl ?_
    refine q_iaload (q := v) (x := J (fe 0 F + 6) v) (pc2 := 16) d_Fe_count_15 rfl (sh_fe6 hS (show 0 < 3 by decide) hF) (nI_toInt (by omega)) (by omega) rfl ?_
    refine r_iconst (v := nI 1) (pc2 := 17) d_Fe_count_16 rfl (by decide) ?_
    refine r_iadd (pc2 := 18) d_Fe_count_17 rfl ?_
    refine q_iastore (q := v) (pc2 := 19) d_Fe_count_18 rfl (sh_fe6 hS (show 0 < 3 by decide) hF) (nI_toInt (by omega)) (by omega) (fun I3 hI3 => ?_)
    refine Run.ret none d_Fe_count_19 rfl ?_
    first | (exfalso; omega) | exact ⟨rfl, _, rfl, hI3⟩
theorem c_Fe_isShared {d : Nat} {J : Nat → Nat → Int32} {R : Nat → Nat → Option Nat} {L : Nat → Nat → Int64} {sh : Nat → Nat × Nat} {N : Nat} (hS : ShOK sh) (hR : RfOK R) {F : Nat} (hF : F < 12) {nR r : Nat} (hn : J (fe 0 F) 5 = nI nR) (hr : r < nR) (hR6 : nR ≤ 6) {x : Int32} (hx : J (ru 0 F r) 1 = x) (hd : 1 ≤ d) : Me mi_Fe_isShared d 0 0 [.ref (fe 0 F), .int (nI r)] (J, R, L, sh, N) (some (.int (bI (x.toInt = -1)))) (J, R, L, sh, N) := by
  have hr6 : r < 6 := by omega
  refine Mt.of pn_Fe (Nat.le_of_ble_eq_true rfl) ?_
  show Run mi_Fe_isShared d 0 0 0 [(0, .ref (fe 0 F)), (1, .int (nI r))] [] (J, R, L, sh, N) _
  refine r_iload_n (pc2 := 1) d_Fe_isShared_0 rfl rfl ?_
  refine q_if_lt (tgt := 28) (A := ((r : Nat) : Int)) (pc2 := 4) d_Fe_isShared_1 rfl rfl (nI_toInt (by omega)) (fun c1 => ?_) (fun c1 => ?_)
  · exfalso; omega
  refine r_iload_n (pc2 := 5) d_Fe_isShared_4 rfl rfl ?_
  refine r_aload_n (x := some (fe 0 F)) (pc2 := 6) d_Fe_isShared_5 rfl rfl ?_
  refine q_getI (x := nI nR) (pc2 := 9) d_Fe_isShared_6 rfl k_Fe_30 (by decide) (sh_fe0 hS (show 0 < 3 by decide) hF) hn ?_
  refine q_icmp_ge (tgt := 28) (A := ((r : Nat) : Int)) (B := ((nR : Nat) : Int)) (pc2 := 12) d_Fe_isShared_9 rfl rfl (nI_toInt (by omega)) (nI_toInt (by omega)) (fun c2 => ?_) (fun c2 => ?_)
  · refine r_iconst (v := nI 0) (pc2 := 29) d_Fe_isShared_28 rfl (by decide) ?_
    refine Run.ret (some (.int (nI 0))) d_Fe_isShared_29 ⟨_, rfl, by decide⟩ ?_
    first | (exfalso; omega) | exact ⟨by rw [bI_f (by omega)]; rfl, rfl⟩
  · refine r_aload_n (x := some (fe 0 F)) (pc2 := 13) d_Fe_isShared_12 rfl rfl ?_
    refine q_getR (x := some (fe 0 F + 1)) (pc2 := 16) d_Fe_isShared_13 rfl k_Fe_26 rfl (sh_fe0 hS (show 0 < 3 by decide) hF) (rf_fe_4 hR (show 0 < 3 by decide) hF) ?_
    refine r_iload_n (pc2 := 17) d_Fe_isShared_16 rfl rfl ?_
    refine q_aaload (q := r) (x := some (ru 0 F r)) (pc2 := 18) d_Fe_isShared_17 rfl (sh_fe1 hS (show 0 < 3 by decide) hF) (by decide) (by decide) (nI_toInt (by omega)) (by omega) (rf_ru hR (show 0 < 3 by decide) hF hr6) ?_
    refine q_callv (M2 := mi_Ru_isFixed) (pc2 := 21) d_Fe_isShared_18 rfl k_Fe_95 cm_Ru_isFixed cv_Ru_isFixed (sh_ru hS (show 0 < 3 by decide) hF hr6) (by decide) rfl rfl rfl (Nat.le_of_ble_eq_true rfl) (c_Ru_isFixed (J := J) (q := ru 0 F r) (sh_ru hS (show 0 < 3 by decide) hF hr6) (sh_rp hS (show 0 < 3 by decide) hF hr6) (rf_rp hR (show 0 < 3 by decide) hF hr6)) (d2 := d - 1) (by omega) (Nat.le_of_eq (Nat.zero_add _)) (Nat.le_of_eq (Nat.zero_add _)) ?_
    rw [show J (ru 0 F r) 1 = x from hx]
    refine q_bif_ne (tgt := 28) (pc2 := 24) d_Fe_isShared_21 rfl rfl (fun c3 => ?_) (fun c3 => ?_)
    · refine r_iconst (v := nI 0) (pc2 := 29) d_Fe_isShared_28 rfl (by decide) ?_
      refine Run.ret (some (.int (nI 0))) d_Fe_isShared_29 ⟨_, rfl, by decide⟩ ?_
      first | (exfalso; omega) | exact ⟨by rw [bI_f (by omega)]; rfl, rfl⟩
    · refine r_iconst (v := nI 1) (pc2 := 25) d_Fe_isShared_24 rfl (by decide) ?_
      refine r_goto (tgt := 29) d_Fe_isShared_25 rfl ?_
      refine Run.ret (some (.int (nI 1))) d_Fe_isShared_29 ⟨_, rfl, by decide⟩ ?_
      first | (exfalso; omega) | exact ⟨by rw [bI_t (by omega)]; rfl, rfl⟩
theorem c_X_askInTruth {d : Nat} {I : Nat → Nat → Int32} {R : Nat → Nat → Option Nat} {L : Nat → Nat → Int64} {sh : Nat → Nat × Nat} {N : Nat} (hS : ShOK sh) (hR : RfOK R) {tK tF tC tS : Nat → Int32} {nt : Nat} (hV : TV tK tF tC nt) (hV2 : TV2 tK tF tC tS nt) (hnt6 : nt ≤ 1000000) {G : Nat → Int32} {nP nF nS : Nat} (hW : WFA G nP nF nt) (hWT : WFT G nF nS) (hKW : WFK G nP nF) {rk : Nat → Nat} (hrk : RK G nF rk) (hD : DR tK tF tC tS I R sh nt 0 G nP nF nS) {p : Nat} (hp : p < nP) {F : Nat} (hF : F < nF) (hd : 60 ≤ d) : Mt mi_X_askInTruth d 0 0 [.ref 0, .int (nI F), .int (nI p)] (I, R, L, sh, N) (fun x h2 => ∃ K, h2 = (K, R, L, sh, N) ∧ x = some (.int (AN (TRK tK tF tC tS) G p F).1) ∧ FrD sh I K ∧ DR tK tF tC tS K R sh nt 0 (g_ask (AN (TRK tK tF tC tS) G p F) G F p) nP nF nS) := by
  obtain ⟨hPc, hP24, hFc, hF12, hWF, hWP⟩ := id hW
  have hF12b : F < 12 := by omega
  refine Mt.of pn_X (Nat.le_of_ble_eq_true rfl) ?_
  show Run mi_X_askInTruth d 0 0 0 [(0, .ref 0), (1, .int (nI F)), (2, .int (nI p))] [] (I, R, L, sh, N) _
  obtain ⟨tpF, klF, skF, fbF, nRF, nNF, nOF, frF, toF, ⟨a0F, b0F, cc0F, dd0F⟩, ⟨a1F, b1F, cc1F, dd1F⟩, ⟨a2F, b2F, cc2F, dd2F⟩, ⟨a3F, b3F, cc3F, dd3F⟩, ⟨a4F, b4F, cc4F, dd4F⟩, ⟨a5F, b5F, cc5F, dd5F⟩, ⟨a6F, b6F, cc6F, dd6F⟩, ⟨a8F, b8F, cc8F, dd8F⟩, ⟨a9F, b9F, cc9F, dd9F⟩⟩ := wfn (hWF F (by omega))
  obtain ⟨-, -, -, -, -, -, -, w7F, -, -, wNF, wRF, wKF, wOF⟩ := hWF F (by omega)
  obtain ⟨⟨x0F, x1F, x2F, x3F, x4F, x5F, x6F, x7F, x8F⟩, xnF, xoF, xkF, xcF, xrF⟩ := hD.2.2.2.1 F (by omega)
  have hflF := fe_lt (e := 0) (by decide) (show F < 12 by omega)
  unfold dk at hflF
  refine r_aload_n (x := some 0) (pc2 := 1) d_X_askInTruth_0 rfl rfl ?_
  refine r_iload_n (pc2 := 2) d_X_askInTruth_1 rfl rfl ?_
  refine r_iload_n (pc2 := 3) d_X_askInTruth_2 rfl rfl ?_
  refine r_callv (M2 := mi_X_answerOne) (pc2 := 6) d_X_askInTruth_3 rfl k_X_321 cm_X_answerOne cv_X_answerOne (sh_0 hS) (by decide) rfl rfl rfl (Nat.le_of_ble_eq_true rfl) (c_X_answerOne hS hR hV hV2 hnt6 hW hD hrk (p := p) (by omega) (F := F) (by omega) FrN.rf (d := d - 1) (by omega)) (d2 := d - 1) (by omega) (Nat.le_of_eq (Nat.zero_add _)) (Nat.le_of_eq (Nat.zero_add _)) (fun r2 h2 hq2 => ?_)
  obtain ⟨K1, rfl, rfl, hK1, hsK1, hnK1, hlK1, hmK1⟩ := hq2
  change Run _ _ _ _ _ _ [.int ((AN (TRK tK tF tC tS) G p F).1)] _ _
  have hr1_K1 : K1 1 = I 1 := hK1.row (by decide) (by rw [sh_1 hS]; decide)
  have hr2_K1 : K1 2 = I 2 := hK1.row (by decide) (by rw [sh_2 hS]; decide)
  have hr3_K1 : K1 3 = I 3 := hK1.row (by decide) (by rw [sh_3 hS]; show 12 ≠ 14; decide)
  have hr4_K1 : K1 4 = I 4 := hK1.row (by decide) (by rw [sh_4 hS]; show 12 ≠ 14; decide)
  have hqFK1 : K1 (fe 0 F) = I (fe 0 F) := hK1.row (by omega) (by rw [sh_fe0 hS (show 0 < 3 by decide) hF12b]; decide)
  have hq5K1 : K1 (fe 0 F + 5) = I (fe 0 F + 5) := hK1.row (by omega) (by rw [sh_fe5 hS (show 0 < 3 by decide) hF12b]; show 12 ≠ 14; decide)
  have hq6K1 : K1 (fe 0 F + 6) = I (fe 0 F + 6) := hK1.row (by omega) (by rw [sh_fe6 hS (show 0 < 3 by decide) hF12b]; show 12 ≠ 14; decide)
  have hvK1 := hsK1.2.2.2 F hmK1
  have hlnK1 := nodup_len nF _ hnK1 hlK1
  obtain ⟨hv3, hr7, hwhy⟩ := AN_rng (tr := (TRK tK tF tC tS)) hW hrk hp hF
  obtain ⟨v, ev, ev2⟩ : ∃ v : Nat, (AN (TRK tK tF tC tS) G p F).1 = nI v ∧ (AN (TRK tK tF tC tS) G p F).1.toInt = (v : Int) := ⟨(AN (TRK tK tF tC tS) G p F).1.toInt.toNat, eq_nI (by omega), by omega⟩
  refine q_top (y := nI v) ev ?_
  refine r_istore_n (pc2 := 7) d_X_askInTruth_6 rfl rfl (Nat.le_of_ble_eq_true rfl) ?_
  refine r_aload_n (x := some 0) (pc2 := 8) d_X_askInTruth_7 rfl rfl ?_
  refine q_getR (x := some 1) (pc2 := 11) d_X_askInTruth_8 rfl k_X_12 rfl (sh_0 hS) (rf_0_0 hR) ?_
  refine q_getR (x := some 5) (pc2 := 14) d_X_askInTruth_11 rfl k_X_211 rfl (sh_1 hS) (rf_1_1 hR) ?_
  refine r_iload_n (pc2 := 15) d_X_askInTruth_14 rfl rfl ?_
  refine q_aaload (q := F) (x := some (fe 0 F)) (pc2 := 16) d_X_askInTruth_15 rfl (sh_5 hS) (by decide) (by decide) (nI_toInt (by omega)) (by omega) (rf_fe hR (show 0 < 3 by decide) (show F < 12 by omega)) ?_
  refine r_astore (x := some (fe 0 F)) (pc2 := 18) d_X_askInTruth_16 rfl (Nat.le_of_ble_eq_true rfl) ?_
  refine r_aload (x := some (fe 0 F)) (pc2 := 20) d_X_askInTruth_18 rfl rfl ?_
  refine r_iload_n (pc2 := 21) d_X_askInTruth_20 rfl rfl ?_
  refine r_callv (M2 := mi_Fe_count) (pc2 := 24) d_X_askInTruth_21 rfl k_X_439 cm_Fe_count cv_Fe_count (sh_fe0 hS (show 0 < 3 by decide) (show F < 12 by omega)) (by decide) rfl rfl rfl (Nat.le_of_ble_eq_true rfl) (c_Fe_count (J := K1) hS hR (F := F) (by omega) (v := v) (by omega)) (d2 := d - 1) (by omega) (Nat.le_of_eq (Nat.zero_add _)) (Nat.le_of_eq (Nat.zero_add _)) (fun r2 h2 hq2 => ?_)
  obtain ⟨rfl, I2, rfl, hI2⟩ := hq2
  change Run _ _ _ _ _ _ [] _ _
  rw [show K1 (fe 0 F + 6) v = G (174 + 84 * F + (10 + v)) from (congrFun hq6K1 _).trans (xcF v (by omega))] at hI2
  refine r_aload_n (x := some 0) (pc2 := 25) d_X_askInTruth_24 rfl rfl ?_
  refine q_getR (x := some 1) (pc2 := 28) d_X_askInTruth_25 rfl k_X_12 rfl (sh_0 hS) (rf_0_0 hR) ?_
  refine r_dup (pc2 := 29) d_X_askInTruth_28 rfl rfl ?_
  refine q_getI (x := G 4) (pc2 := 32) d_X_askInTruth_29 rfl k_X_413 (by decide) (sh_1 hS) ((rd_ne hI2 (by omega)).trans ((congrFun hr1_K1 _).trans (hD.1.2.2.2.2.1))) ?_
  refine r_iconst (v := nI 1) (pc2 := 33) d_X_askInTruth_32 rfl (by decide) ?_
  refine r_iadd (pc2 := 34) d_X_askInTruth_33 rfl ?_
  refine q_putI (pc2 := 37) d_X_askInTruth_34 rfl k_X_413 (Or.inl rfl) (sh_1 hS) (Or.inl rfl) (fun I3 hI3 => ?_)
  refine r_aload_n (x := some 0) (pc2 := 38) d_X_askInTruth_37 rfl rfl ?_
  refine q_getR (x := some 718) (pc2 := 41) d_X_askInTruth_38 rfl k_X_29 rfl (sh_0 hS) (rf_0_4 hR) ?_
  refine q_getR (x := some 720) (pc2 := 44) d_X_askInTruth_41 rfl k_X_327 rfl (sh_718 hS) (rf_718_1 hR) ?_
  refine r_iload_n (pc2 := 45) d_X_askInTruth_44 rfl rfl ?_
  refine q_iaload (q := F) (x := (AN (TRK tK tF tC tS) G p F).2.1) (pc2 := 46) d_X_askInTruth_45 rfl (sh_720 hS) (nI_toInt (by omega)) (by omega) ((rd_ne hI3 (by decide)).trans ((rd_ne hI2 (by omega)).trans (hvK1.2.1))) ?_
  refine r_bipush (v := nI 6) (pc2 := 48) d_X_askInTruth_46 rfl (by decide) ?_
  refine q_icmp_ne (tgt := 55) (A := ((AN (TRK tK tF tC tS) G p F).2.1).toInt) (B := (6 : Int)) (pc2 := 51) d_X_askInTruth_48 rfl rfl (rfl) (nI_toInt (by omega)) (fun c4 => ?_) (fun c4 => ?_)
  · refine r_iconst (v := nI 0) (pc2 := 56) d_X_askInTruth_55 rfl (by decide) ?_
    refine r_istore (pc2 := 58) d_X_askInTruth_56 rfl (Nat.le_of_ble_eq_true rfl) ?_
    refine r_aload (x := some (fe 0 F)) (pc2 := 60) d_X_askInTruth_58 rfl rfl ?_
    refine q_getI (x := nI skF) (pc2 := 63) d_X_askInTruth_60 rfl k_X_226 (by decide) (sh_fe0 hS (show 0 < 3 by decide) (show F < 12 by omega)) ((rd_ne hI3 (by omega)).trans ((rd_ne hI2 (by omega)).trans ((congrFun hqFK1 _).trans (x2F.trans a2F)))) ?_
    refine r_iconst (v := nI 1) (pc2 := 64) d_X_askInTruth_63 rfl (by decide) ?_
    refine q_icmp_ne (tgt := 101) (A := ((skF : Nat) : Int)) (B := (1 : Int)) (pc2 := 67) d_X_askInTruth_64 rfl rfl (nI_toInt (by omega)) (nI_toInt (by omega)) (fun c5 => ?_) (fun c5 => ?_)
    · refine r_iload_n (pc2 := 102) d_X_askInTruth_101 rfl rfl ?_
      refine Run.ret (some (.int (nI v))) d_X_askInTruth_102 ⟨_, rfl⟩ ?_
      refine ⟨_, rfl, by rw [ev], (((hK1.x (by decide)).d.put hI2 (Or.inl (by first | omega | (unfold ru; omega)))).put hI3 (Or.inl (by omega))), ?_⟩
      have d0 := DR.x hS hW (by decide) hD (hK1.x (by decide)) FrXR.rf
      have d1 := DR.f1 hW hWT hF d0 (fun a j q => rd_ne hI2 (by omega)) (fun j hj => u1_o (by omega)) (FR.count (by decide) hF12b hP24 (hWF F hF) (by omega) (d0.2.2.2.1 F hF) hI2)
      have w1 := WFA_count (v := G (174 + 84 * F + (10 + v)) + nI 1) hW hF (show v ≤ 3 by omega)
      have t1 := WFT_f (v := G (174 + 84 * F + (10 + v)) + nI 1) hWT (show 174 ≤ 174 + 84 * F + (10 + v) ∨ _ ∨ _ ∨ _ from Or.inl (by omega))
      have d2 := DR.head w1 t1 (k := 6) (w := 4) (by omega) d1 hI3
      unfold g_ask
      rw [if_neg (fun q => ?_), ev2, Int.toNat_natCast]; exact d2
      omega
    · refine r_iload (pc2 := 69) d_X_askInTruth_67 rfl rfl ?_
      refine q_if_eq (tgt := 101) (A := (0 : Int)) (pc2 := 72) d_X_askInTruth_69 rfl rfl (nI_toInt (by omega)) (fun c6 => ?_) (fun c6 => ?_)
      rotate_left
      · exfalso; omega
      refine r_iload_n (pc2 := 102) d_X_askInTruth_101 rfl rfl ?_
      refine Run.ret (some (.int (nI v))) d_X_askInTruth_102 ⟨_, rfl⟩ ?_
      refine ⟨_, rfl, by rw [ev], (((hK1.x (by decide)).d.put hI2 (Or.inl (by first | omega | (unfold ru; omega)))).put hI3 (Or.inl (by omega))), ?_⟩
      have d0 := DR.x hS hW (by decide) hD (hK1.x (by decide)) FrXR.rf
      have d1 := DR.f1 hW hWT hF d0 (fun a j q => rd_ne hI2 (by omega)) (fun j hj => u1_o (by omega)) (FR.count (by decide) hF12b hP24 (hWF F hF) (by omega) (d0.2.2.2.1 F hF) hI2)
      have w1 := WFA_count (v := G (174 + 84 * F + (10 + v)) + nI 1) hW hF (show v ≤ 3 by omega)
      have t1 := WFT_f (v := G (174 + 84 * F + (10 + v)) + nI 1) hWT (show 174 ≤ 174 + 84 * F + (10 + v) ∨ _ ∨ _ ∨ _ from Or.inl (by omega))
      have d2 := DR.head w1 t1 (k := 6) (w := 4) (by omega) d1 hI3
      unfold g_ask
      rw [if_neg (fun q => ?_), ev2, Int.toNat_natCast]; exact d2
      omega
  · refine r_iconst (v := nI 1) (pc2 := 52) d_X_askInTruth_51 rfl (by decide) ?_
    refine r_goto (tgt := 56) d_X_askInTruth_52 rfl ?_
    refine r_istore (pc2 := 58) d_X_askInTruth_56 rfl (Nat.le_of_ble_eq_true rfl) ?_
    refine r_aload (x := some (fe 0 F)) (pc2 := 60) d_X_askInTruth_58 rfl rfl ?_
    refine q_getI (x := nI skF) (pc2 := 63) d_X_askInTruth_60 rfl k_X_226 (by decide) (sh_fe0 hS (show 0 < 3 by decide) (show F < 12 by omega)) ((rd_ne hI3 (by omega)).trans ((rd_ne hI2 (by omega)).trans ((congrFun hqFK1 _).trans (x2F.trans a2F)))) ?_
    refine r_iconst (v := nI 1) (pc2 := 64) d_X_askInTruth_63 rfl (by decide) ?_
    refine q_icmp_ne (tgt := 101) (A := ((skF : Nat) : Int)) (B := (1 : Int)) (pc2 := 67) d_X_askInTruth_64 rfl rfl (nI_toInt (by omega)) (nI_toInt (by omega)) (fun c7 => ?_) (fun c7 => ?_)
    · refine r_iload_n (pc2 := 102) d_X_askInTruth_101 rfl rfl ?_
      refine Run.ret (some (.int (nI v))) d_X_askInTruth_102 ⟨_, rfl⟩ ?_
      refine ⟨_, rfl, by rw [ev], (((hK1.x (by decide)).d.put hI2 (Or.inl (by first | omega | (unfold ru; omega)))).put hI3 (Or.inl (by omega))), ?_⟩
      have d0 := DR.x hS hW (by decide) hD (hK1.x (by decide)) FrXR.rf
      have d1 := DR.f1 hW hWT hF d0 (fun a j q => rd_ne hI2 (by omega)) (fun j hj => u1_o (by omega)) (FR.count (by decide) hF12b hP24 (hWF F hF) (by omega) (d0.2.2.2.1 F hF) hI2)
      have w1 := WFA_count (v := G (174 + 84 * F + (10 + v)) + nI 1) hW hF (show v ≤ 3 by omega)
      have t1 := WFT_f (v := G (174 + 84 * F + (10 + v)) + nI 1) hWT (show 174 ≤ 174 + 84 * F + (10 + v) ∨ _ ∨ _ ∨ _ from Or.inl (by omega))
      have d2 := DR.head w1 t1 (k := 6) (w := 4) (by omega) d1 hI3
      unfold g_ask
      rw [if_neg (fun q => ?_), ev2, Int.toNat_natCast]; exact d2
      omega
    · refine r_iload (pc2 := 69) d_X_askInTruth_67 rfl rfl ?_
      refine q_if_eq (tgt := 101) (A := (1 : Int)) (pc2 := 72) d_X_askInTruth_69 rfl rfl (nI_toInt (by omega)) (fun c8 => ?_) (fun c8 => ?_)
      · exfalso; omega
      refine r_iload_n (pc2 := 73) d_X_askInTruth_72 rfl rfl ?_
      refine q_if_eq (tgt := 101) (A := ((v : Nat) : Int)) (pc2 := 76) d_X_askInTruth_73 rfl rfl (nI_toInt (by omega)) (fun c9 => ?_) (fun c9 => ?_)
      · refine r_iload_n (pc2 := 102) d_X_askInTruth_101 rfl rfl ?_
        refine Run.ret (some (.int (nI v))) d_X_askInTruth_102 ⟨_, rfl⟩ ?_
        refine ⟨_, rfl, by rw [ev], (((hK1.x (by decide)).d.put hI2 (Or.inl (by first | omega | (unfold ru; omega)))).put hI3 (Or.inl (by omega))), ?_⟩
        have d0 := DR.x hS hW (by decide) hD (hK1.x (by decide)) FrXR.rf
        have d1 := DR.f1 hW hWT hF d0 (fun a j q => rd_ne hI2 (by omega)) (fun j hj => u1_o (by omega)) (FR.count (by decide) hF12b hP24 (hWF F hF) (by omega) (d0.2.2.2.1 F hF) hI2)
        have w1 := WFA_count (v := G (174 + 84 * F + (10 + v)) + nI 1) hW hF (show v ≤ 3 by omega)
        have t1 := WFT_f (v := G (174 + 84 * F + (10 + v)) + nI 1) hWT (show 174 ≤ 174 + 84 * F + (10 + v) ∨ _ ∨ _ ∨ _ from Or.inl (by omega))
        have d2 := DR.head w1 t1 (k := 6) (w := 4) (by omega) d1 hI3
        unfold g_ask
        rw [if_neg (fun q => ?_), ev2, Int.toNat_natCast]; exact d2
        omega
      · obtain ⟨r, hr, er⟩ := hwhy (by omega)
        obtain ⟨rtFr, raFr, rbFr, rcFr, ⟨t0Fr, t1Fr, t2Fr⟩, ⟨u0Fr, u1Fr, u2Fr⟩, ⟨v0Fr, v1Fr, v2Fr⟩, ⟨z0Fr, z1Fr, z2Fr⟩⟩ := wrn (wRF r (by omega))
        obtain ⟨rfFr, rsFr, cFr, mFr, bbFr, rrFr, coFr, bnFr, ttFr⟩ := xrF r (by unfold nRof; rw [b4F, Int.toNat_natCast]; omega)
        have cmFr := coFr.2.2.1
        have c781Fr := coFr.2.2.2.1
        have hjr : K1 (ru 0 F r) = I (ru 0 F r) := hK1.row (by unfold ru; omega) (by rw [sh_ru hS (show 0 < 3 by decide) hF12b (show r < 6 by omega)]; decide)
        refine r_aload (x := some (fe 0 F)) (pc2 := 78) d_X_askInTruth_76 rfl rfl ?_
        refine r_aload_n (x := some 0) (pc2 := 79) d_X_askInTruth_78 rfl rfl ?_
        refine q_getR (x := some 718) (pc2 := 82) d_X_askInTruth_79 rfl k_X_29 rfl (sh_0 hS) (rf_0_4 hR) ?_
        refine q_getR (x := some 721) (pc2 := 85) d_X_askInTruth_82 rfl k_X_330 rfl (sh_718 hS) (rf_718_2 hR) ?_
        refine r_iload_n (pc2 := 86) d_X_askInTruth_85 rfl rfl ?_
        refine q_iaload (q := F) (x := nI r) (pc2 := 87) d_X_askInTruth_86 rfl (sh_721 hS) (nI_toInt (by omega)) (by omega) ((rd_ne hI3 (by decide)).trans ((rd_ne hI2 (by omega)).trans ((hvK1.2.2).trans er))) ?_
        have hm1 : (-1 : Int32).toInt = -1 := by decide
        obtain ⟨x, hxx⟩ : ∃ x, x = I (ru 0 F r) 1 := ⟨_, rfl⟩
        have hxi : x.toInt = -1 ↔ ¬ 1000 ≤ (G (174 + 84 * F + 60 + 4 * r + 1)).toInt := by
          by_cases hfx : 1000 ≤ (G (174 + 84 * F + 60 + 4 * r + 1)).toInt
          · rw [hxx, rfFr hfx, u0Fr, nI_sub_toInt (by omega) (by omega), nI_toInt (by omega)]; omega
          · rw [hxx, (rsFr hfx).1]; omega
        refine q_callv (M2 := mi_Fe_isShared) (pc2 := 90) d_X_askInTruth_87 rfl k_X_441 cm_Fe_isShared cv_Fe_isShared (sh_fe0 hS (show 0 < 3 by decide) (show F < 12 by omega)) (by decide) rfl rfl rfl (Nat.le_of_ble_eq_true rfl) (c_Fe_isShared (J := I3) hS hR (F := F) (by omega) (nR := nRF) (r := r) ((rd_ne hI3 (by omega)).trans ((rd_ne hI2 (by omega)).trans ((congrFun hqFK1 _).trans (x4F.trans a4F)))) (by omega) (by omega) (x := x) ((rd_ne hI3 (by unfold ru; omega)).trans ((rd_ne hI2 (by unfold ru; omega)).trans ((congrFun hjr _).trans hxx.symm))) (d := d - 1) (by omega)) (d2 := d - 1) (by omega) (Nat.le_of_eq (Nat.zero_add _)) (Nat.le_of_eq (Nat.zero_add _)) ?_
        refine q_bif_eq (tgt := 101) (pc2 := 93) d_X_askInTruth_90 rfl rfl (fun c10 => ?_) (fun c10 => ?_)
        · refine r_iload_n (pc2 := 102) d_X_askInTruth_101 rfl rfl ?_
          refine Run.ret (some (.int (nI v))) d_X_askInTruth_102 ⟨_, rfl⟩ ?_
          refine ⟨_, rfl, by rw [ev], (((hK1.x (by decide)).d.put hI2 (Or.inl (by first | omega | (unfold ru; omega)))).put hI3 (Or.inl (by omega))), ?_⟩
          have d0 := DR.x hS hW (by decide) hD (hK1.x (by decide)) FrXR.rf
          have d1 := DR.f1 hW hWT hF d0 (fun a j q => rd_ne hI2 (by omega)) (fun j hj => u1_o (by omega)) (FR.count (by decide) hF12b hP24 (hWF F hF) (by omega) (d0.2.2.2.1 F hF) hI2)
          have w1 := WFA_count (v := G (174 + 84 * F + (10 + v)) + nI 1) hW hF (show v ≤ 3 by omega)
          have t1 := WFT_f (v := G (174 + 84 * F + (10 + v)) + nI 1) hWT (show 174 ≤ 174 + 84 * F + (10 + v) ∨ _ ∨ _ ∨ _ from Or.inl (by omega))
          have d2 := DR.head w1 t1 (k := 6) (w := 4) (by omega) d1 hI3
          unfold g_ask
          rw [if_neg (fun q => ?_), ev2, Int.toNat_natCast]; exact d2
          rw [er, nI_toInt (by omega), Int.toNat_natCast] at q; omega
        · refine r_aload (x := some (fe 0 F)) (pc2 := 95) d_X_askInTruth_93 rfl rfl ?_
          refine q_getR (x := some (fe 0 F + 5)) (pc2 := 98) d_X_askInTruth_95 rfl k_X_365 rfl (sh_fe0 hS (show 0 < 3 by decide) (show F < 12 by omega)) (rf_fe_10 hR (show 0 < 3 by decide) (show F < 12 by omega)) ?_
          refine r_iload_n (pc2 := 99) d_X_askInTruth_98 rfl rfl ?_
          refine r_iload_n (pc2 := 100) d_X_askInTruth_99 rfl rfl ?_
          refine q_iastore (q := p) (pc2 := 101) d_X_askInTruth_100 rfl (sh_fe5 hS (show 0 < 3 by decide) (show F < 12 by omega)) (nI_toInt (by omega)) (by omega) (fun I11 hI11 => ?_)
          refine r_iload_n (pc2 := 102) d_X_askInTruth_101 rfl rfl ?_
          refine Run.ret (some (.int (nI v))) d_X_askInTruth_102 ⟨_, rfl⟩ ?_
          refine ⟨_, rfl, by rw [ev], ((((hK1.x (by decide)).d.put hI2 (Or.inl (by first | omega | (unfold ru; omega)))).put hI3 (Or.inl (by omega))).put hI11 (Or.inl (by first | omega | (unfold ru; omega)))), ?_⟩
          have d0 := DR.x hS hW (by decide) hD (hK1.x (by decide)) FrXR.rf
          have d1 := DR.f1 hW hWT hF d0 (fun a j q => rd_ne hI2 (by omega)) (fun j hj => u1_o (by omega)) (FR.count (by decide) hF12b hP24 (hWF F hF) (by omega) (d0.2.2.2.1 F hF) hI2)
          have w1 := WFA_count (v := G (174 + 84 * F + (10 + v)) + nI 1) hW hF (show v ≤ 3 by omega)
          have t1 := WFT_f (v := G (174 + 84 * F + (10 + v)) + nI 1) hWT (show 174 ≤ 174 + 84 * F + (10 + v) ∨ _ ∨ _ ∨ _ from Or.inl (by omega))
          have d2 := DR.head w1 t1 (k := 6) (w := 4) (by omega) d1 hI3
          unfold g_ask
          rw [if_pos ⟨by omega, by omega, by omega, by rw [er, nI_toInt (by omega), Int.toNat_natCast]; omega⟩, ev2, ev, Int.toNat_natCast]
          have w2 := WFA_4 (v := G 4 + nI 1) w1
          have t2 := WFT_f (v := G 4 + nI 1) t1 (Or.inr (Or.inl rfl))
          exact DR.f1 w2 t2 hF d2 (fun a j q => rd_ne hI11 (by omega)) (fun j hj => u1_o (by omega)) (FR.kept (by decide) hF12b hP24 (w2.2.2.2.2.1 F hF) hp (by rw [nI_toInt (by omega)]; omega) (d2.2.2.2.1 F hF) hI11)
theorem c_X_ask {d : Nat} {I : Nat → Nat → Int32} {R : Nat → Nat → Option Nat} {L : Nat → Nat → Int64} {sh : Nat → Nat × Nat} {N : Nat} (hS : ShOK sh) (hR : RfOK R) {tK tF tC tS : Nat → Int32} {nt : Nat} (hV : TV tK tF tC nt) (hV2 : TV2 tK tF tC tS nt) (hnt6 : nt ≤ 1000000) {G : Nat → Int32} {nP nF nS : Nat} (hW : WFA G nP nF nt) (hWT : WFT G nF nS) (hKW : WFK G nP nF) {rk : Nat → Nat} (hrk : RK G nF rk) (hD : DR tK tF tC tS I R sh nt 0 G nP nF nS) {f : Int32} {key : Int32} (hd : 90 ≤ d) : Mt mi_X_ask d 0 0 [.ref 0, .int f, .int key] (I, R, L, sh, N) (XD I R L sh N (o_ask (AN (TRK tK tF tC tS) G) G nP nF f key) (PD tK tF tC tS I R sh nt (g_asked (AN (TRK tK tF tC tS) G) G nP nF f key) nP nF nS)) := by
  obtain ⟨hPc, hP24, hFc, hF12, hWF, hWP⟩ := id hW
  have hS24 := hWT.2.1
  refine Mt.of pn_X (Nat.le_of_ble_eq_true rfl) ?_
  show Run mi_X_ask d 0 0 0 [(0, .ref 0), (1, .int f), (2, .int key)] [] (I, R, L, sh, N) _
  refine r_aload_n (x := some 0) (pc2 := 1) d_X_ask_0 rfl rfl ?_
  refine q_getR (x := some 1) (pc2 := 4) d_X_ask_1 rfl k_X_12 rfl (sh_0 hS) (rf_0_0 hR) ?_
  refine q_getR (x := some 2) (pc2 := 7) d_X_ask_4 rfl k_X_179 rfl (sh_1 hS) (rf_1_0 hR) ?_
  refine r_iload_n (pc2 := 8) d_X_ask_7 rfl rfl ?_
  refine r_i2l (pc2 := 9) d_X_ask_8 rfl ?_
  refine q_callv (M2 := mi_Pe_find) (pc2 := 12) d_X_ask_9 rfl k_X_183 cm_Pe_find cv_Pe_find (sh_2 hS) (by decide) rfl rfl rfl (Nat.le_of_ble_eq_true rfl) (c_Pe_find (x := key.toInt64) hS hR hV hV2 hnt6 hW hWT hKW hrk hD) (d2 := d - 1) (by omega) (Nat.le_of_eq (Nat.zero_add _)) (Nat.le_of_eq (Nat.zero_add _)) ?_
  refine q_top (y := vo (pB G nP key)) (by rw [fL_i]) ?_
  cases hopkkey : pB G nP key with
  | none =>
    refine r_istore_n (pc2 := 13) d_X_ask_12 rfl rfl (Nat.le_of_ble_eq_true rfl) ?_
    refine r_iload_n (pc2 := 14) d_X_ask_13 rfl rfl ?_
    refine r_iconst (v := (-1 : Int32)) (pc2 := 15) d_X_ask_14 rfl (by decide) ?_
    refine q_icmp_eq (tgt := 26) (A := (-1 : Int)) (B := (-1 : Int)) (pc2 := 18) d_X_ask_15 rfl rfl (by decide) (by decide) (fun c1 => ?_) (fun c1 => ?_)
    rotate_left
    · exfalso; omega
    refine r_aload_n (x := some 0) (pc2 := 27) d_X_ask_26 rfl rfl ?_
    refine r_bipush (v := (-32 : Int32)) (pc2 := 29) d_X_ask_27 rfl (by decide) ?_
    refine q_callv (M2 := mi_X_refuse) (pc2 := 32) d_X_ask_29 rfl k_X_75 cm_X_refuse cv_X_refuse (sh_0 hS) (by decide) rfl rfl rfl (Nat.le_of_ble_eq_true rfl) (c_X_refuse_0 (J := I) hS hR) (d2 := d - 1) (by omega) (Nat.le_of_eq (Nat.zero_add _)) (Nat.le_of_eq (Nat.zero_add _)) ?_
    obtain ⟨I2, hI2⟩ : ∃ x, x = u2 I 744 0 (I 744 0 + nI 1) := ⟨_, rfl⟩
    rw [← hI2]
    refine Run.ret (some (.int ((-32 : Int32)))) d_X_ask_32 ⟨_, rfl⟩ ?_
    first | (exfalso; omega) | exact XD.bad hS 0 (by (unfold o_ask); (try dsimp only); (try simp only [Int.toNat_natCast]); (repeat (first | rw [if_pos (by omega)] | rw [if_neg (by omega)] | (rw [hopkkey]; try dsimp only))); (try rfl); (all_goals first | rfl | (congr 2 <;> omega) | ((repeat' split) <;> first | rfl | (exfalso; omega) | (congr 2 <;> omega) | skip))) (by decide) FrXR.rf FrX.rf hI2
  | some pkkey =>
    obtain ⟨hppkkey, hqpkkey, -⟩ := fst1_spec (show fst1 _ _ = some pkkey from hopkkey)
    refine r_istore_n (pc2 := 13) d_X_ask_12 rfl rfl (Nat.le_of_ble_eq_true rfl) ?_
    refine r_iload_n (pc2 := 14) d_X_ask_13 rfl rfl ?_
    refine r_iconst (v := (-1 : Int32)) (pc2 := 15) d_X_ask_14 rfl (by decide) ?_
    refine q_icmp_eq (tgt := 26) (A := ((pkkey : Nat) : Int)) (B := (-1 : Int)) (pc2 := 18) d_X_ask_15 rfl rfl (nI_toInt (by omega)) (by decide) (fun c3 => ?_) (fun c3 => ?_)
    · exfalso; omega
    refine r_aload_n (x := some 0) (pc2 := 19) d_X_ask_18 rfl rfl ?_
    refine r_iload_n (pc2 := 20) d_X_ask_19 rfl rfl ?_
    refine q_callv (M2 := mi_X_isFeature) (pc2 := 23) d_X_ask_20 rfl k_X_220 cm_X_isFeature cv_X_isFeature (sh_0 hS) (by decide) rfl rfl rfl (Nat.le_of_ble_eq_true rfl) (c_X_isFeature (f := f) hS hR hV hV2 hnt6 hW hWT hKW hrk hD) (d2 := d - 1) (by omega) (Nat.le_of_eq (Nat.zero_add _)) (Nat.le_of_eq (Nat.zero_add _)) ?_
    refine q_bif_ne (tgt := 33) (pc2 := 26) d_X_ask_23 rfl rfl (fun c4 => ?_) (fun c4 => ?_)
    · obtain ⟨fN, hfN, rfl, efN⟩ := nat_of c4
      obtain ⟨tpfN, klfN, skfN, fbfN, nRfN, nNfN, nOfN, frfN, tofN, ⟨a0fN, b0fN, cc0fN, dd0fN⟩, ⟨a1fN, b1fN, cc1fN, dd1fN⟩, ⟨a2fN, b2fN, cc2fN, dd2fN⟩, ⟨a3fN, b3fN, cc3fN, dd3fN⟩, ⟨a4fN, b4fN, cc4fN, dd4fN⟩, ⟨a5fN, b5fN, cc5fN, dd5fN⟩, ⟨a6fN, b6fN, cc6fN, dd6fN⟩, ⟨a8fN, b8fN, cc8fN, dd8fN⟩, ⟨a9fN, b9fN, cc9fN, dd9fN⟩⟩ := wfn (hWF fN (by omega))
      obtain ⟨-, -, -, -, -, -, -, w7fN, -, -, wNfN, wRfN, wKfN, wOfN⟩ := hWF fN (by omega)
      obtain ⟨⟨x0fN, x1fN, x2fN, x3fN, x4fN, x5fN, x6fN, x7fN, x8fN⟩, xnfN, xofN, xkfN, xcfN, xrfN⟩ := hD.2.2.2.1 fN (by omega)
      have hflfN := fe_lt (e := 0) (by decide) (show fN < 12 by omega)
      unfold dk at hflfN
      refine r_aload_n (x := some 0) (pc2 := 34) d_X_ask_33 rfl rfl ?_
      refine r_iload_n (pc2 := 35) d_X_ask_34 rfl rfl ?_
      refine r_iload_n (pc2 := 36) d_X_ask_35 rfl rfl ?_
      refine r_callv (M2 := mi_X_askInTruth) (pc2 := 39) d_X_ask_36 rfl k_X_318 cm_X_askInTruth cv_X_askInTruth (sh_0 hS) (by decide) rfl rfl rfl (Nat.le_of_ble_eq_true rfl) (c_X_askInTruth hS hR hV hV2 hnt6 hW hWT hKW hrk hD (p := pkkey) (by omega) (F := fN) (by omega) (d := d - 1) (by omega)) (d2 := d - 1) (by omega) (Nat.le_of_eq (Nat.zero_add _)) (Nat.le_of_eq (Nat.zero_add _)) (fun r2 h2 hq2 => ?_)
      obtain ⟨K5, rfl, rfl, hfK5, hdK5⟩ := hq2
      change Run _ _ _ _ _ _ [.int ((AN (TRK tK tF tC tS) G pkkey fN).1)] _ _
      refine Run.ret (some (.int ((AN (TRK tK tF tC tS) G pkkey fN).1))) d_X_ask_39 ⟨_, rfl⟩ ?_
      first | (exfalso; omega) | exact XD.val (by (try simp only [efN, b0fN, b1fN, b2fN, b3fN, b4fN, b5fN, b6fN, b8fN, b9fN, Int.toNat_natCast] at c4); (unfold o_ask); (try dsimp only); (try simp only [efN, b0fN, b1fN, b2fN, b3fN, b4fN, b5fN, b6fN, b8fN, b9fN, Int.toNat_natCast]); (repeat (first | rw [if_pos (by omega)] | rw [if_neg (by omega)] | (rw [hopkkey]; try dsimp only))); (try rfl); (all_goals first | rfl | (simp only [a0fN, a1fN, a2fN, a3fN, a4fN, a5fN, a6fN, a8fN, a9fN]; done) | (congr 2 <;> omega) | ((repeat' split) <;> first | rfl | (simp only [a0fN, a1fN, a2fN, a3fN, a4fN, a5fN, a6fN, a8fN, a9fN]; done) | (exfalso; omega) | (congr 2 <;> omega) | skip))) ⟨hfK5, FrRD.rf, by (try simp only [efN, b0fN, b1fN, b2fN, b3fN, b4fN, b5fN, b6fN, b8fN, b9fN, Int.toNat_natCast] at c4); (unfold g_asked); (try dsimp only); (try simp only [efN, b0fN, b1fN, b2fN, b3fN, b4fN, b5fN, b6fN, b8fN, b9fN, Int.toNat_natCast]); (repeat (first | rw [if_pos (by omega)] | rw [if_neg (by omega)] | (rw [hopkkey]; try dsimp only))); exact hdK5⟩
    · refine r_aload_n (x := some 0) (pc2 := 27) d_X_ask_26 rfl rfl ?_
      refine r_bipush (v := (-32 : Int32)) (pc2 := 29) d_X_ask_27 rfl (by decide) ?_
      refine q_callv (M2 := mi_X_refuse) (pc2 := 32) d_X_ask_29 rfl k_X_75 cm_X_refuse cv_X_refuse (sh_0 hS) (by decide) rfl rfl rfl (Nat.le_of_ble_eq_true rfl) (c_X_refuse_0 (J := I) hS hR) (d2 := d - 1) (by omega) (Nat.le_of_eq (Nat.zero_add _)) (Nat.le_of_eq (Nat.zero_add _)) ?_
      obtain ⟨I6, hI6⟩ : ∃ x, x = u2 I 744 0 (I 744 0 + nI 1) := ⟨_, rfl⟩
      rw [← hI6]
      refine Run.ret (some (.int ((-32 : Int32)))) d_X_ask_32 ⟨_, rfl⟩ ?_
      first | (exfalso; omega) | exact XD.bad hS 0 (by (unfold o_ask); (try dsimp only); (try simp only [Int.toNat_natCast]); (repeat (first | rw [if_pos (by omega)] | rw [if_neg (by omega)] | (rw [hopkkey]; try dsimp only))); (try rfl); (all_goals first | rfl | (congr 2 <;> omega) | ((repeat' split) <;> first | rfl | (exfalso; omega) | (congr 2 <;> omega) | skip))) (by decide) FrXR.rf FrX.rf hI6
