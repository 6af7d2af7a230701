/-! THE CLASS: override, on -/
theorem c_X_override {d : Nat} {I : Nat → Nat → Int32} {R : Nat → Nat → Option Nat} {L : Nat → Nat → Int64} {sh : Nat → Nat × Nat} {N : Nat} (hS : ShOK sh) (hR : RfOK R) {tK tF tC tS : Nat → Int32} {nt : Nat} (hV : TV tK tF tC nt) (hV2 : TV2 tK tF tC tS nt) (hnt6 : nt ≤ 1000000) {G : Nat → Int32} {nP nF nS : Nat} (hW : WFA G nP nF nt) (hWT : WFT G nF nS) (hKW : WFK G nP nF) {rk : Nat → Nat} (hrk : RK G nF rk) (hD : DR tK tF tC tS I R sh nt 0 G nP nF nS) {f : Int32} {key : Int32} {v : Int32} (hd : 90 ≤ d) : Mt mi_X_override d 0 0 [.ref 0, .int f, .int key, .int v] (I, R, L, sh, N) (XD I R L sh N (o_override G nP nF f key v) (PD tK tF tC tS I R sh nt (g_override G nP nF f key v) nP nF nS)) := by
  obtain ⟨hPc, hP24, hFc, hF12, hWF, hWP⟩ := id hW
  have hS24 := hWT.2.1
  refine Mt.of pn_X (Nat.le_of_ble_eq_true rfl) ?_
  show Run mi_X_override d 0 0 0 [(0, .ref 0), (1, .int f), (2, .int key), (3, .int v)] [] (I, R, L, sh, N) _
  refine r_aload_n (x := some 0) (pc2 := 1) d_X_override_0 rfl rfl ?_
  refine q_getR (x := some 1) (pc2 := 4) d_X_override_1 rfl k_X_12 rfl (sh_0 hS) (rf_0_0 hR) ?_
  refine q_getR (x := some 2) (pc2 := 7) d_X_override_4 rfl k_X_179 rfl (sh_1 hS) (rf_1_0 hR) ?_
  refine r_iload_n (pc2 := 8) d_X_override_7 rfl rfl ?_
  refine r_i2l (pc2 := 9) d_X_override_8 rfl ?_
  refine q_callv (M2 := mi_Pe_find) (pc2 := 12) d_X_override_9 rfl k_X_183 cm_Pe_find cv_Pe_find (sh_2 hS) (by decide) rfl rfl rfl (Nat.le_of_ble_eq_true rfl) (c_Pe_find (x := key.toInt64) hS hR hV hV2 hnt6 hW hWT hKW hrk hD) (d2 := d - 1) (by omega) (Nat.le_of_eq (Nat.zero_add _)) (Nat.le_of_eq (Nat.zero_add _)) ?_
  refine q_top (y := vo (pB G nP key)) (by rw [fL_i]) ?_
  cases hopkkey : pB G nP key with
  | none =>
    refine r_istore (pc2 := 14) d_X_override_12 rfl (Nat.le_of_ble_eq_true rfl) ?_
    refine r_iload (pc2 := 16) d_X_override_14 rfl rfl ?_
    refine r_iconst (v := (-1 : Int32)) (pc2 := 17) d_X_override_16 rfl (by decide) ?_
    refine q_icmp_eq (tgt := 28) (A := (-1 : Int)) (B := (-1 : Int)) (pc2 := 20) d_X_override_17 rfl rfl (by decide) (by decide) (fun c1 => ?_) (fun c1 => ?_)
    rotate_left
    · exfalso; omega
    refine r_aload_n (x := some 0) (pc2 := 29) d_X_override_28 rfl rfl ?_
    refine r_bipush (v := (-32 : Int32)) (pc2 := 31) d_X_override_29 rfl (by decide) ?_
    refine q_callv (M2 := mi_X_refuse) (pc2 := 34) d_X_override_31 rfl k_X_75 cm_X_refuse cv_X_refuse (sh_0 hS) (by decide) rfl rfl rfl (Nat.le_of_ble_eq_true rfl) (c_X_refuse_0 (J := I) hS hR) (d2 := d - 1) (by omega) (Nat.le_of_eq (Nat.zero_add _)) (Nat.le_of_eq (Nat.zero_add _)) ?_
    obtain ⟨I2, hI2⟩ : ∃ x, x = u2 I 744 0 (I 744 0 + nI 1) := ⟨_, rfl⟩
    rw [← hI2]
    refine Run.ret (some (.int ((-32 : Int32)))) d_X_override_34 ⟨_, rfl⟩ ?_
    first | (exfalso; omega) | exact XD.bad hS 0 (by (unfold o_override); (try dsimp only); (try simp only [Int.toNat_natCast]); (repeat (first | rw [if_pos (by omega)] | rw [if_neg (by omega)] | (rw [hopkkey]; try dsimp only))); (try rfl); (all_goals first | rfl | (congr 2 <;> omega) | ((repeat' split) <;> first | rfl | (exfalso; omega) | (congr 2 <;> omega) | skip))) (by decide) FrXR.rf FrX.rf hI2
  | some pkkey =>
    obtain ⟨hppkkey, hqpkkey, -⟩ := fst1_spec (show fst1 _ _ = some pkkey from hopkkey)
    refine r_istore (pc2 := 14) d_X_override_12 rfl (Nat.le_of_ble_eq_true rfl) ?_
    refine r_iload (pc2 := 16) d_X_override_14 rfl rfl ?_
    refine r_iconst (v := (-1 : Int32)) (pc2 := 17) d_X_override_16 rfl (by decide) ?_
    refine q_icmp_eq (tgt := 28) (A := ((pkkey : Nat) : Int)) (B := (-1 : Int)) (pc2 := 20) d_X_override_17 rfl rfl (nI_toInt (by omega)) (by decide) (fun c3 => ?_) (fun c3 => ?_)
    · exfalso; omega
    refine r_aload_n (x := some 0) (pc2 := 21) d_X_override_20 rfl rfl ?_
    refine r_iload_n (pc2 := 22) d_X_override_21 rfl rfl ?_
    refine q_callv (M2 := mi_X_isFeature) (pc2 := 25) d_X_override_22 rfl k_X_220 cm_X_isFeature cv_X_isFeature (sh_0 hS) (by decide) rfl rfl rfl (Nat.le_of_ble_eq_true rfl) (c_X_isFeature (f := f) hS hR hV hV2 hnt6 hW hWT hKW hrk hD) (d2 := d - 1) (by omega) (Nat.le_of_eq (Nat.zero_add _)) (Nat.le_of_eq (Nat.zero_add _)) ?_
    refine q_bif_ne (tgt := 35) (pc2 := 28) d_X_override_25 rfl rfl (fun c4 => ?_) (fun c4 => ?_)
    · obtain ⟨fN, hfN, rfl, efN⟩ := nat_of c4
      obtain ⟨tpfN, klfN, skfN, fbfN, nRfN, nNfN, nOfN, frfN, tofN, ⟨a0fN, b0fN, cc0fN, dd0fN⟩, ⟨a1fN, b1fN, cc1fN, dd1fN⟩, ⟨a2fN, b2fN, cc2fN, dd2fN⟩, ⟨a3fN, b3fN, cc3fN, dd3fN⟩, ⟨a4fN, b4fN, cc4fN, dd4fN⟩, ⟨a5fN, b5fN, cc5fN, dd5fN⟩, ⟨a6fN, b6fN, cc6fN, dd6fN⟩, ⟨a8fN, b8fN, cc8fN, dd8fN⟩, ⟨a9fN, b9fN, cc9fN, dd9fN⟩⟩ := wfn (hWF fN (by omega))
      obtain ⟨-, -, -, -, -, -, -, w7fN, -, -, wNfN, wRfN, wKfN, wOfN⟩ := hWF fN (by omega)
      obtain ⟨⟨x0fN, x1fN, x2fN, x3fN, x4fN, x5fN, x6fN, x7fN, x8fN⟩, xnfN, xofN, xkfN, xcfN, xrfN⟩ := hD.2.2.2.1 fN (by omega)
      have hflfN := fe_lt (e := 0) (by decide) (show fN < 12 by omega)
      unfold dk at hflfN
      refine r_iload_n (pc2 := 36) d_X_override_35 rfl rfl ?_
      refine r_iconst (v := (-1 : Int32)) (pc2 := 37) d_X_override_36 rfl (by decide) ?_
      refine q_icmp_eq (tgt := 56) (A := v.toInt) (B := (-1 : Int)) (pc2 := 40) d_X_override_37 rfl rfl (rfl) (by decide) (fun c5 => ?_) (fun c5 => ?_)
      · obtain rfl : v = (-1 : Int32) := Int32.toInt_inj.mp (by rw [m1v]; omega)
        have m1t : (-1 : Int32).toInt = -1 := m1v
        refine r_aload_n (x := some 0) (pc2 := 57) d_X_override_56 rfl rfl ?_
        refine q_getR (x := some 1) (pc2 := 60) d_X_override_57 rfl k_X_12 rfl (sh_0 hS) (rf_0_0 hR) ?_
        refine q_getR (x := some 5) (pc2 := 63) d_X_override_60 rfl k_X_211 rfl (sh_1 hS) (rf_1_1 hR) ?_
        refine r_iload_n (pc2 := 64) d_X_override_63 rfl rfl ?_
        refine q_aaload (q := fN) (x := some (fe 0 fN)) (pc2 := 65) d_X_override_64 rfl (sh_5 hS) (by decide) (by decide) (nI_toInt (by omega)) (by omega) (rf_fe hR (show 0 < 3 by decide) (show fN < 12 by omega)) ?_
        refine r_astore (x := some (fe 0 fN)) (pc2 := 67) d_X_override_65 rfl (Nat.le_of_ble_eq_true rfl) ?_
        refine r_aload (x := some (fe 0 fN)) (pc2 := 69) d_X_override_67 rfl rfl ?_
        refine q_getR (x := some (fe 0 fN + 4)) (pc2 := 72) d_X_override_69 rfl k_X_286 rfl (sh_fe0 hS (show 0 < 3 by decide) (show fN < 12 by omega)) (rf_fe_9 hR (show 0 < 3 by decide) (show fN < 12 by omega)) ?_
        refine r_iload (pc2 := 74) d_X_override_72 rfl rfl ?_
        refine q_iaload (q := pkkey) (x := ovV G fN (G (6 + 2 * pkkey))) (pc2 := 75) d_X_override_74 rfl (sh_fe4 hS (show 0 < 3 by decide) (show fN < 12 by omega)) (nI_toInt (by omega)) (by omega) ((xofN pkkey (by omega)).trans (if_pos (by omega))) ?_
        have ekey : G (6 + 2 * pkkey) = key := of_decide_eq_true hqpkkey
        have enO : nOof G fN = nOfN := by unfold nOof; rw [b6fN, Int.toNat_natCast]
        have hOD : OD G fN nOfN := fun i j hi hj z => (hKW.2.1 fN (by omega) j (by rw [enO]; exact hj)).2 i (by rw [enO]; exact hi) z
        have hfln := fe_lt (e := 0) (by decide) (show fN < 12 by omega)
        unfold dk at hfln
        have hx16 : 1 + 1 = 2 := rfl
        cases ho : oB G fN nOfN key with
        | none =>
          have hz : ∀ k, k < nOfN → G (174 + 84 * fN + (20 + 2 * k)) ≠ key := fun k hk q => by
            have := oB_is.mpr ⟨k, hk, q⟩
            rw [ho] at this; cases this
          refine q_top (y := (-1 : Int32)) (by rw [ekey]; exact ovV_no enO hz) ?_
          refine r_istore (pc2 := 77) d_X_override_75 rfl (Nat.le_of_ble_eq_true rfl) ?_
          refine r_iload (pc2 := 79) d_X_override_77 rfl rfl ?_
          refine r_iconst (v := (-1 : Int32)) (pc2 := 80) d_X_override_79 rfl (by decide) ?_
          refine q_icmp_ne (tgt := 108) (A := (-1 : Int)) (B := (-1 : Int)) (pc2 := 83) d_X_override_80 rfl rfl (by decide) (by decide) (fun c6 => ?_) (fun c6 => ?_)
          · exfalso; omega
          refine r_iload_n (pc2 := 84) d_X_override_83 rfl rfl ?_
          refine r_iconst (v := (-1 : Int32)) (pc2 := 85) d_X_override_84 rfl (by decide) ?_
          refine q_icmp_eq (tgt := 108) (A := (-1 : Int)) (B := (-1 : Int)) (pc2 := 88) d_X_override_85 rfl rfl (by decide) (by decide) (fun c7 => ?_) (fun c7 => ?_)
          rotate_left
          · exfalso; omega
          refine r_aload (x := some (fe 0 fN)) (pc2 := 110) d_X_override_108 rfl rfl ?_
          refine q_getR (x := some (fe 0 fN + 4)) (pc2 := 113) d_X_override_110 rfl k_X_286 rfl (sh_fe0 hS (show 0 < 3 by decide) (show fN < 12 by omega)) (rf_fe_9 hR (show 0 < 3 by decide) (show fN < 12 by omega)) ?_
          refine r_iload (pc2 := 115) d_X_override_113 rfl rfl ?_
          refine r_iload_n (pc2 := 116) d_X_override_115 rfl rfl ?_
          refine q_iastore (q := pkkey) (pc2 := 117) d_X_override_116 rfl (sh_fe4 hS (show 0 < 3 by decide) (show fN < 12 by omega)) (nI_toInt (by omega)) (by omega) (fun I8 hI8 => ?_)
          refine r_iload (pc2 := 119) d_X_override_117 rfl rfl ?_
          refine Run.ret (some (.int ((-1 : Int32)))) d_X_override_119 ⟨_, rfl⟩ ?_
          have hpv : ∀ q, q < nP → ovV (G) fN (G (6 + 2 * q)) = if q = pkkey then -1 else ovV G fN (G (6 + 2 * q)) := fun q hq => by
            by_cases y : q = pkkey
            · rw [if_pos y, y, ekey]; exact ovV_no enO hz
            · rw [if_neg y]
          first | (exfalso; omega) | exact XD.val (by (try simp only [efN, b0fN, b1fN, b2fN, b3fN, b4fN, b5fN, b6fN, b8fN, b9fN, m1v, Int.toNat_natCast] at c4 c5); (unfold o_override); (try dsimp only); (try simp only [efN, b0fN, b1fN, b2fN, b3fN, b4fN, b5fN, b6fN, b8fN, b9fN, m1v, Int.toNat_natCast]); (repeat (first | rw [if_pos (by omega)] | rw [if_neg (by omega)] | (rw [hopkkey]; try dsimp only) | (rw [ho]; try dsimp only))); (try rfl); (all_goals first | rfl | (simp only [a0fN, a1fN, a2fN, a3fN, a4fN, a5fN, a6fN, a8fN, a9fN]; done) | (congr 2 <;> omega) | ((repeat' split) <;> first | rfl | (simp only [a0fN, a1fN, a2fN, a3fN, a4fN, a5fN, a6fN, a8fN, a9fN]; done) | (exfalso; omega) | (congr 2 <;> omega) | skip))) ⟨(FrD.rf.put hI8 (Or.inl (by first | omega | (unfold ru; omega)))), FrRD.rf, by (try simp only [efN, b0fN, b1fN, b2fN, b3fN, b4fN, b5fN, b6fN, b8fN, b9fN, m1v, Int.toNat_natCast] at c4 c5); (unfold g_override); (try dsimp only); (try simp only [efN, b0fN, b1fN, b2fN, b3fN, b4fN, b5fN, b6fN, b8fN, b9fN, m1v, Int.toNat_natCast]); (repeat (first | rw [if_pos (by omega)] | rw [if_neg (by omega)] | (rw [hopkkey]; try dsimp only) | (rw [ho]; try dsimp only))); exact DR.f1 hW hWT (E := fN) (by omega) hD (fun a j q => rd_ne hI8 (by omega)) (fun j hj => rfl) (FR.ov (by decide) (by omega) hP24 hppkkey (hWF fN (by omega)) (hD.2.2.2.1 fN (by omega)) hI8 (fun w hw hn => rfl) (fun q hq => rfl) hpv)⟩
        | some ko =>
          obtain ⟨hko, hqo, -⟩ := fst1_spec (show fst1 _ _ = some ko from ho)
          replace hqo := of_decide_eq_true hqo
          have hvo := (hWF fN (by omega)).2.2.2.2.2.2.2.2.2.2.2.2.2 ko (by omega)
          refine q_top (y := G (174 + 84 * fN + (20 + 2 * ko + 1))) (by rw [ekey]; exact ovV_at hOD enO hko hqo) ?_
          refine r_istore (pc2 := 77) d_X_override_75 rfl (Nat.le_of_ble_eq_true rfl) ?_
          refine r_iload (pc2 := 79) d_X_override_77 rfl rfl ?_
          refine r_iconst (v := (-1 : Int32)) (pc2 := 80) d_X_override_79 rfl (by decide) ?_
          refine q_icmp_ne (tgt := 108) (A := (G (174 + 84 * fN + (20 + 2 * ko + 1))).toInt) (B := (-1 : Int)) (pc2 := 83) d_X_override_80 rfl rfl (rfl) (by decide) (fun c9 => ?_) (fun c9 => ?_)
          · refine r_aload (x := some (fe 0 fN)) (pc2 := 110) d_X_override_108 rfl rfl ?_
            refine q_getR (x := some (fe 0 fN + 4)) (pc2 := 113) d_X_override_110 rfl k_X_286 rfl (sh_fe0 hS (show 0 < 3 by decide) (show fN < 12 by omega)) (rf_fe_9 hR (show 0 < 3 by decide) (show fN < 12 by omega)) ?_
            refine r_iload (pc2 := 115) d_X_override_113 rfl rfl ?_
            refine r_iload_n (pc2 := 116) d_X_override_115 rfl rfl ?_
            refine q_iastore (q := pkkey) (pc2 := 117) d_X_override_116 rfl (sh_fe4 hS (show 0 < 3 by decide) (show fN < 12 by omega)) (nI_toInt (by omega)) (by omega) (fun I10 hI10 => ?_)
            refine r_iload (pc2 := 119) d_X_override_117 rfl rfl ?_
            refine Run.ret (some (.int (G (174 + 84 * fN + (20 + 2 * ko + 1))))) d_X_override_119 ⟨_, rfl⟩ ?_
            have hpv := (ov_del hKW.1 hOD enO (by omega) hko hppkkey (hqo.trans ekey.symm))
            have e6r : (G (174 + 84 * fN + 6)).toInt.toNat = nOfN := enO
            first | (exfalso; omega) | exact XD.val (by (try simp only [efN, b0fN, b1fN, b2fN, b3fN, b4fN, b5fN, b6fN, b8fN, b9fN, m1v, Int.toNat_natCast] at c4 c5 c9); (unfold o_override); (try dsimp only); (try simp only [efN, b0fN, b1fN, b2fN, b3fN, b4fN, b5fN, b6fN, b8fN, b9fN, m1v, Int.toNat_natCast]); (repeat (first | rw [if_pos (by omega)] | rw [if_neg (by omega)] | (rw [hopkkey]; try dsimp only) | (rw [ho]; try dsimp only))); (try rfl); (all_goals first | rfl | (simp only [a0fN, a1fN, a2fN, a3fN, a4fN, a5fN, a6fN, a8fN, a9fN]; done) | (congr 2 <;> omega) | ((repeat' split) <;> first | rfl | (simp only [a0fN, a1fN, a2fN, a3fN, a4fN, a5fN, a6fN, a8fN, a9fN]; done) | (exfalso; omega) | (congr 2 <;> omega) | skip))) ⟨(FrD.rf.put hI10 (Or.inl (by first | omega | (unfold ru; omega)))), FrRD.rf, by (try simp only [efN, b0fN, b1fN, b2fN, b3fN, b4fN, b5fN, b6fN, b8fN, b9fN, m1v, Int.toNat_natCast] at c4 c5 c9); (unfold g_override); (try dsimp only); (try simp only [efN, b0fN, b1fN, b2fN, b3fN, b4fN, b5fN, b6fN, b8fN, b9fN, m1v, Int.toNat_natCast]); (repeat (first | rw [if_pos (by omega)] | rw [if_neg (by omega)] | (rw [hopkkey]; try dsimp only) | (rw [ho]; try dsimp only))); exact DR.f1 hW hWT (E := fN) (by omega) hD (fun a j q => rd_ne hI10 (by omega)) (fun j hj => by unfold g_loses; rw [u1_o (by omega), shf_o (by omega)]) (FR.ov (by decide) (by omega) hP24 hppkkey (hWF fN (by omega)) (hD.2.2.2.1 fN (by omega)) hI10 (fun w hw hn => by unfold g_loses; rw [u1_o (by omega), shf_o (by omega)]) (fun q hq => by unfold g_loses; rw [u1_o (by omega), shf_o (by omega)]) hpv)⟩
          · refine r_iload_n (pc2 := 84) d_X_override_83 rfl rfl ?_
            refine r_iconst (v := (-1 : Int32)) (pc2 := 85) d_X_override_84 rfl (by decide) ?_
            refine q_icmp_eq (tgt := 108) (A := (-1 : Int)) (B := (-1 : Int)) (pc2 := 88) d_X_override_85 rfl rfl (by decide) (by decide) (fun c11 => ?_) (fun c11 => ?_)
            rotate_left
            · exfalso; omega
            refine r_aload (x := some (fe 0 fN)) (pc2 := 110) d_X_override_108 rfl rfl ?_
            refine q_getR (x := some (fe 0 fN + 4)) (pc2 := 113) d_X_override_110 rfl k_X_286 rfl (sh_fe0 hS (show 0 < 3 by decide) (show fN < 12 by omega)) (rf_fe_9 hR (show 0 < 3 by decide) (show fN < 12 by omega)) ?_
            refine r_iload (pc2 := 115) d_X_override_113 rfl rfl ?_
            refine r_iload_n (pc2 := 116) d_X_override_115 rfl rfl ?_
            refine q_iastore (q := pkkey) (pc2 := 117) d_X_override_116 rfl (sh_fe4 hS (show 0 < 3 by decide) (show fN < 12 by omega)) (nI_toInt (by omega)) (by omega) (fun I12 hI12 => ?_)
            refine r_iload (pc2 := 119) d_X_override_117 rfl rfl ?_
            refine Run.ret (some (.int (G (174 + 84 * fN + (20 + 2 * ko + 1))))) d_X_override_119 ⟨_, rfl⟩ ?_
            have hpv := (ov_del hKW.1 hOD enO (by omega) hko hppkkey (hqo.trans ekey.symm))
            have e6r : (G (174 + 84 * fN + 6)).toInt.toNat = nOfN := enO
            first | (exfalso; omega) | exact XD.val (by (try simp only [efN, b0fN, b1fN, b2fN, b3fN, b4fN, b5fN, b6fN, b8fN, b9fN, m1v, Int.toNat_natCast] at c4 c5 c9); (unfold o_override); (try dsimp only); (try simp only [efN, b0fN, b1fN, b2fN, b3fN, b4fN, b5fN, b6fN, b8fN, b9fN, m1v, Int.toNat_natCast]); (repeat (first | rw [if_pos (by omega)] | rw [if_neg (by omega)] | (rw [hopkkey]; try dsimp only) | (rw [ho]; try dsimp only))); (try rfl); (all_goals first | rfl | (simp only [a0fN, a1fN, a2fN, a3fN, a4fN, a5fN, a6fN, a8fN, a9fN]; done) | (congr 2 <;> omega) | ((repeat' split) <;> first | rfl | (simp only [a0fN, a1fN, a2fN, a3fN, a4fN, a5fN, a6fN, a8fN, a9fN]; done) | (exfalso; omega) | (congr 2 <;> omega) | skip))) ⟨(FrD.rf.put hI12 (Or.inl (by first | omega | (unfold ru; omega)))), FrRD.rf, by (try simp only [efN, b0fN, b1fN, b2fN, b3fN, b4fN, b5fN, b6fN, b8fN, b9fN, m1v, Int.toNat_natCast] at c4 c5 c9); (unfold g_override); (try dsimp only); (try simp only [efN, b0fN, b1fN, b2fN, b3fN, b4fN, b5fN, b6fN, b8fN, b9fN, m1v, Int.toNat_natCast]); (repeat (first | rw [if_pos (by omega)] | rw [if_neg (by omega)] | (rw [hopkkey]; try dsimp only) | (rw [ho]; try dsimp only))); exact DR.f1 hW hWT (E := fN) (by omega) hD (fun a j q => rd_ne hI12 (by omega)) (fun j hj => by unfold g_loses; rw [u1_o (by omega), shf_o (by omega)]) (FR.ov (by decide) (by omega) hP24 hppkkey (hWF fN (by omega)) (hD.2.2.2.1 fN (by omega)) hI12 (fun w hw hn => by unfold g_loses; rw [u1_o (by omega), shf_o (by omega)]) (fun q hq => by unfold g_loses; rw [u1_o (by omega), shf_o (by omega)]) hpv)⟩
      · refine r_aload_n (x := some 0) (pc2 := 41) d_X_override_40 rfl rfl ?_
        refine r_iload_n (pc2 := 42) d_X_override_41 rfl rfl ?_
        refine r_iload_n (pc2 := 43) d_X_override_42 rfl rfl ?_
        refine q_callv (M2 := mi_X_isVariant) (pc2 := 46) d_X_override_43 rfl k_X_271 cm_X_isVariant cv_X_isVariant (sh_0 hS) (by decide) rfl rfl rfl (Nat.le_of_ble_eq_true rfl) (c_X_isVariant (f := nI fN) (v := v) hS hR hV hV2 hnt6 hW hWT hKW hrk hD (by omega)) (d2 := d - 1) (by omega) (Nat.le_of_eq (Nat.zero_add _)) (Nat.le_of_eq (Nat.zero_add _)) ?_
        refine q_bif_ne (tgt := 56) (pc2 := 49) d_X_override_46 rfl rfl (fun c13 => ?_) (fun c13 => ?_)
        · simp only [efN, Int.toNat_natCast, b0fN] at c13
          obtain ⟨vN, hvN, gvN, rfl, evN⟩ := nat_of' (Int.le_refl 0) c13.2
          refine r_aload_n (x := some 0) (pc2 := 57) d_X_override_56 rfl rfl ?_
          refine q_getR (x := some 1) (pc2 := 60) d_X_override_57 rfl k_X_12 rfl (sh_0 hS) (rf_0_0 hR) ?_
          refine q_getR (x := some 5) (pc2 := 63) d_X_override_60 rfl k_X_211 rfl (sh_1 hS) (rf_1_1 hR) ?_
          refine r_iload_n (pc2 := 64) d_X_override_63 rfl rfl ?_
          refine q_aaload (q := fN) (x := some (fe 0 fN)) (pc2 := 65) d_X_override_64 rfl (sh_5 hS) (by decide) (by decide) (nI_toInt (by omega)) (by omega) (rf_fe hR (show 0 < 3 by decide) (show fN < 12 by omega)) ?_
          refine r_astore (x := some (fe 0 fN)) (pc2 := 67) d_X_override_65 rfl (Nat.le_of_ble_eq_true rfl) ?_
          refine r_aload (x := some (fe 0 fN)) (pc2 := 69) d_X_override_67 rfl rfl ?_
          refine q_getR (x := some (fe 0 fN + 4)) (pc2 := 72) d_X_override_69 rfl k_X_286 rfl (sh_fe0 hS (show 0 < 3 by decide) (show fN < 12 by omega)) (rf_fe_9 hR (show 0 < 3 by decide) (show fN < 12 by omega)) ?_
          refine r_iload (pc2 := 74) d_X_override_72 rfl rfl ?_
          refine q_iaload (q := pkkey) (x := ovV G fN (G (6 + 2 * pkkey))) (pc2 := 75) d_X_override_74 rfl (sh_fe4 hS (show 0 < 3 by decide) (show fN < 12 by omega)) (nI_toInt (by omega)) (by omega) ((xofN pkkey (by omega)).trans (if_pos (by omega))) ?_
          have ekey : G (6 + 2 * pkkey) = key := of_decide_eq_true hqpkkey
          have enO : nOof G fN = nOfN := by unfold nOof; rw [b6fN, Int.toNat_natCast]
          have hOD : OD G fN nOfN := fun i j hi hj z => (hKW.2.1 fN (by omega) j (by rw [enO]; exact hj)).2 i (by rw [enO]; exact hi) z
          have hfln := fe_lt (e := 0) (by decide) (show fN < 12 by omega)
          unfold dk at hfln
          have hx16 : 1 + 1 = 2 := rfl
          cases ho : oB G fN nOfN key with
          | none =>
            have hz : ∀ k, k < nOfN → G (174 + 84 * fN + (20 + 2 * k)) ≠ key := fun k hk q => by
              have := oB_is.mpr ⟨k, hk, q⟩
              rw [ho] at this; cases this
            refine q_top (y := (-1 : Int32)) (by rw [ekey]; exact ovV_no enO hz) ?_
            refine r_istore (pc2 := 77) d_X_override_75 rfl (Nat.le_of_ble_eq_true rfl) ?_
            refine r_iload (pc2 := 79) d_X_override_77 rfl rfl ?_
            refine r_iconst (v := (-1 : Int32)) (pc2 := 80) d_X_override_79 rfl (by decide) ?_
            refine q_icmp_ne (tgt := 108) (A := (-1 : Int)) (B := (-1 : Int)) (pc2 := 83) d_X_override_80 rfl rfl (by decide) (by decide) (fun c14 => ?_) (fun c14 => ?_)
            · exfalso; omega
            refine r_iload_n (pc2 := 84) d_X_override_83 rfl rfl ?_
            refine r_iconst (v := (-1 : Int32)) (pc2 := 85) d_X_override_84 rfl (by decide) ?_
            refine q_icmp_eq (tgt := 108) (A := ((vN : Nat) : Int)) (B := (-1 : Int)) (pc2 := 88) d_X_override_85 rfl rfl (nI_toInt (by omega)) (by decide) (fun c15 => ?_) (fun c15 => ?_)
            · exfalso; omega
            refine r_aload (x := some (fe 0 fN)) (pc2 := 90) d_X_override_88 rfl rfl ?_
            refine q_getR (x := some (fe 0 fN + 4)) (pc2 := 93) d_X_override_90 rfl k_X_286 rfl (sh_fe0 hS (show 0 < 3 by decide) (show fN < 12 by omega)) (rf_fe_9 hR (show 0 < 3 by decide) (show fN < 12 by omega)) ?_
            refine q_calls (M2 := mi_X_countSome) (pc2 := 96) d_X_override_93 rfl k_X_289 cm_X_countSome cs_X_countSome rfl rfl (Nat.le_of_ble_eq_true rfl) (c_X_countSome (J := I) hS hR (A := fe 0 fN + 4) (sh_fe4 hS (show 0 < 3 by decide) (show fN < 12 by omega))) (d2 := d - 1) (by omega) (Nat.le_of_eq (Nat.zero_add _)) (Nat.le_of_eq (Nat.zero_add _)) ?_
            refine q_top (y := nI nOfN) ((FR.nov hKW (by omega) hP24 (hWF fN (by omega)) (hD.2.2.2.1 fN (by omega))).trans a6fN) ?_
            refine r_bipush (v := nI 8) (pc2 := 98) d_X_override_96 rfl (by decide) ?_
            refine q_icmp_lt (tgt := 108) (A := ((nOfN : Nat) : Int)) (B := (8 : Int)) (pc2 := 101) d_X_override_98 rfl rfl (nI_toInt (by omega)) (nI_toInt (by omega)) (fun c16 => ?_) (fun c16 => ?_)
            · refine r_aload (x := some (fe 0 fN)) (pc2 := 110) d_X_override_108 rfl rfl ?_
              refine q_getR (x := some (fe 0 fN + 4)) (pc2 := 113) d_X_override_110 rfl k_X_286 rfl (sh_fe0 hS (show 0 < 3 by decide) (show fN < 12 by omega)) (rf_fe_9 hR (show 0 < 3 by decide) (show fN < 12 by omega)) ?_
              refine r_iload (pc2 := 115) d_X_override_113 rfl rfl ?_
              refine r_iload_n (pc2 := 116) d_X_override_115 rfl rfl ?_
              refine q_iastore (q := pkkey) (pc2 := 117) d_X_override_116 rfl (sh_fe4 hS (show 0 < 3 by decide) (show fN < 12 by omega)) (nI_toInt (by omega)) (by omega) (fun I17 hI17 => ?_)
              refine r_iload (pc2 := 119) d_X_override_117 rfl rfl ?_
              refine Run.ret (some (.int ((-1 : Int32)))) d_X_override_119 ⟨_, rfl⟩ ?_
              have hpv : ∀ q, q < nP → ovV (u1 (u1 (u1 G (174 + 84 * fN + (20 + 2 * nOfN)) key) (174 + 84 * fN + 6) (nI (nOfN + 1))) (174 + 84 * fN + (20 + 2 * nOfN + 1)) (nI vN)) fN (G (6 + 2 * q)) = if q = pkkey then (nI vN) else ovV G fN (G (6 + 2 * q)) := by
                have hh := ov_add (v := (nI vN)) hKW.1 hOD enO (by omega) hppkkey (fun k hk q => hz k hk (q.trans ekey))
                rw [ekey] at hh; exact hh
              first | (exfalso; omega) | exact XD.val (by (try simp only [efN, b0fN, b1fN, b2fN, b3fN, b4fN, b5fN, b6fN, b8fN, b9fN, evN, Int.toNat_natCast] at c4 c5 c13 c16); (unfold o_override); (try dsimp only); (try simp only [efN, b0fN, b1fN, b2fN, b3fN, b4fN, b5fN, b6fN, b8fN, b9fN, evN, Int.toNat_natCast]); (repeat (first | rw [if_pos (by omega)] | rw [if_neg (by omega)] | (rw [hopkkey]; try dsimp only) | (rw [ho]; try dsimp only))); (try rfl); (all_goals first | rfl | (simp only [a0fN, a1fN, a2fN, a3fN, a4fN, a5fN, a6fN, a8fN, a9fN]; done) | (congr 2 <;> omega) | ((repeat' split) <;> first | rfl | (simp only [a0fN, a1fN, a2fN, a3fN, a4fN, a5fN, a6fN, a8fN, a9fN]; done) | (exfalso; omega) | (congr 2 <;> omega) | skip))) ⟨(FrD.rf.put hI17 (Or.inl (by first | omega | (unfold ru; omega)))), FrRD.rf, by (try simp only [efN, b0fN, b1fN, b2fN, b3fN, b4fN, b5fN, b6fN, b8fN, b9fN, evN, Int.toNat_natCast] at c4 c5 c13 c16); (unfold g_override); (try dsimp only); (try simp only [efN, b0fN, b1fN, b2fN, b3fN, b4fN, b5fN, b6fN, b8fN, b9fN, evN, Int.toNat_natCast]); (repeat (first | rw [if_pos (by omega)] | rw [if_neg (by omega)] | (rw [hopkkey]; try dsimp only) | (rw [ho]; try dsimp only))); exact DR.f1 hW hWT (E := fN) (by omega) hD (fun a j q => rd_ne hI17 (by omega)) (fun j hj => by rw [u1_o (by omega), u1_o (by omega), u1_o (by omega)]) (FR.ov (by decide) (by omega) hP24 hppkkey (hWF fN (by omega)) (hD.2.2.2.1 fN (by omega)) hI17 (fun w hw hn => by rw [u1_o (by omega), u1_o (by omega), u1_o (by omega)]) (fun q hq => by rw [u1_o (by omega), u1_o (by omega), u1_o (by omega)]) hpv)⟩
            · refine r_aload_n (x := some 0) (pc2 := 102) d_X_override_101 rfl rfl ?_
              refine r_bipush (v := (-36 : Int32)) (pc2 := 104) d_X_override_102 rfl (by decide) ?_
              refine q_callv (M2 := mi_X_refuse) (pc2 := 107) d_X_override_104 rfl k_X_75 cm_X_refuse cv_X_refuse (sh_0 hS) (by decide) rfl rfl rfl (Nat.le_of_ble_eq_true rfl) (c_X_refuse_4 (J := I) hS hR) (d2 := d - 1) (by omega) (Nat.le_of_eq (Nat.zero_add _)) (Nat.le_of_eq (Nat.zero_add _)) ?_
              obtain ⟨I18, hI18⟩ : ∃ x, x = u2 I 744 4 (I 744 4 + nI 1) := ⟨_, rfl⟩
              rw [← hI18]
              refine Run.ret (some (.int ((-36 : Int32)))) d_X_override_107 ⟨_, rfl⟩ ?_
              first | (exfalso; omega) | exact XD.bad hS 4 (by (try simp only [efN, b0fN, b1fN, b2fN, b3fN, b4fN, b5fN, b6fN, b8fN, b9fN, evN, Int.toNat_natCast] at c4 c5 c13 c16); (unfold o_override); (try dsimp only); (try simp only [efN, b0fN, b1fN, b2fN, b3fN, b4fN, b5fN, b6fN, b8fN, b9fN, evN, Int.toNat_natCast]); (repeat (first | rw [if_pos (by omega)] | rw [if_neg (by omega)] | (rw [hopkkey]; try dsimp only) | (rw [ho]; try dsimp only))); (try rfl); (all_goals first | rfl | (simp only [a0fN, a1fN, a2fN, a3fN, a4fN, a5fN, a6fN, a8fN, a9fN]; done) | (congr 2 <;> omega) | ((repeat' split) <;> first | rfl | (simp only [a0fN, a1fN, a2fN, a3fN, a4fN, a5fN, a6fN, a8fN, a9fN]; done) | (exfalso; omega) | (congr 2 <;> omega) | skip))) (by decide) FrXR.rf FrX.rf hI18
          | some ko =>
            obtain ⟨hko, hqo, -⟩ := fst1_spec (show fst1 _ _ = some ko from ho)
            replace hqo := of_decide_eq_true hqo
            have hvo := (hWF fN (by omega)).2.2.2.2.2.2.2.2.2.2.2.2.2 ko (by omega)
            refine q_top (y := G (174 + 84 * fN + (20 + 2 * ko + 1))) (by rw [ekey]; exact ovV_at hOD enO hko hqo) ?_
            refine r_istore (pc2 := 77) d_X_override_75 rfl (Nat.le_of_ble_eq_true rfl) ?_
            refine r_iload (pc2 := 79) d_X_override_77 rfl rfl ?_
            refine r_iconst (v := (-1 : Int32)) (pc2 := 80) d_X_override_79 rfl (by decide) ?_
            refine q_icmp_ne (tgt := 108) (A := (G (174 + 84 * fN + (20 + 2 * ko + 1))).toInt) (B := (-1 : Int)) (pc2 := 83) d_X_override_80 rfl rfl (rfl) (by decide) (fun c19 => ?_) (fun c19 => ?_)
            · refine r_aload (x := some (fe 0 fN)) (pc2 := 110) d_X_override_108 rfl rfl ?_
              refine q_getR (x := some (fe 0 fN + 4)) (pc2 := 113) d_X_override_110 rfl k_X_286 rfl (sh_fe0 hS (show 0 < 3 by decide) (show fN < 12 by omega)) (rf_fe_9 hR (show 0 < 3 by decide) (show fN < 12 by omega)) ?_
              refine r_iload (pc2 := 115) d_X_override_113 rfl rfl ?_
              refine r_iload_n (pc2 := 116) d_X_override_115 rfl rfl ?_
              refine q_iastore (q := pkkey) (pc2 := 117) d_X_override_116 rfl (sh_fe4 hS (show 0 < 3 by decide) (show fN < 12 by omega)) (nI_toInt (by omega)) (by omega) (fun I20 hI20 => ?_)
              refine r_iload (pc2 := 119) d_X_override_117 rfl rfl ?_
              refine Run.ret (some (.int (G (174 + 84 * fN + (20 + 2 * ko + 1))))) d_X_override_119 ⟨_, rfl⟩ ?_
              have hpv := (ov_put (v := (nI vN)) hKW.1 hOD enO hko hppkkey (hqo.trans ekey.symm))
              have e6r : (G (174 + 84 * fN + 6)).toInt.toNat = nOfN := enO
              first | (exfalso; omega) | exact XD.val (by (try simp only [efN, b0fN, b1fN, b2fN, b3fN, b4fN, b5fN, b6fN, b8fN, b9fN, evN, Int.toNat_natCast] at c4 c5 c13 c19); (unfold o_override); (try dsimp only); (try simp only [efN, b0fN, b1fN, b2fN, b3fN, b4fN, b5fN, b6fN, b8fN, b9fN, evN, Int.toNat_natCast]); (repeat (first | rw [if_pos (by omega)] | rw [if_neg (by omega)] | (rw [hopkkey]; try dsimp only) | (rw [ho]; try dsimp only))); (try rfl); (all_goals first | rfl | (simp only [a0fN, a1fN, a2fN, a3fN, a4fN, a5fN, a6fN, a8fN, a9fN]; done) | (congr 2 <;> omega) | ((repeat' split) <;> first | rfl | (simp only [a0fN, a1fN, a2fN, a3fN, a4fN, a5fN, a6fN, a8fN, a9fN]; done) | (exfalso; omega) | (congr 2 <;> omega) | skip))) ⟨(FrD.rf.put hI20 (Or.inl (by first | omega | (unfold ru; omega)))), FrRD.rf, by (try simp only [efN, b0fN, b1fN, b2fN, b3fN, b4fN, b5fN, b6fN, b8fN, b9fN, evN, Int.toNat_natCast] at c4 c5 c13 c19); (unfold g_override); (try dsimp only); (try simp only [efN, b0fN, b1fN, b2fN, b3fN, b4fN, b5fN, b6fN, b8fN, b9fN, evN, Int.toNat_natCast]); (repeat (first | rw [if_pos (by omega)] | rw [if_neg (by omega)] | (rw [hopkkey]; try dsimp only) | (rw [ho]; try dsimp only))); exact DR.f1 hW hWT (E := fN) (by omega) hD (fun a j q => rd_ne hI20 (by omega)) (fun j hj => u1_o (by omega)) (FR.ov (by decide) (by omega) hP24 hppkkey (hWF fN (by omega)) (hD.2.2.2.1 fN (by omega)) hI20 (fun w hw hn => u1_o (by omega)) (fun q hq => u1_o (by omega)) hpv)⟩
            · refine r_iload_n (pc2 := 84) d_X_override_83 rfl rfl ?_
              refine r_iconst (v := (-1 : Int32)) (pc2 := 85) d_X_override_84 rfl (by decide) ?_
              refine q_icmp_eq (tgt := 108) (A := ((vN : Nat) : Int)) (B := (-1 : Int)) (pc2 := 88) d_X_override_85 rfl rfl (nI_toInt (by omega)) (by decide) (fun c21 => ?_) (fun c21 => ?_)
              · exfalso; omega
              refine r_aload (x := some (fe 0 fN)) (pc2 := 90) d_X_override_88 rfl rfl ?_
              refine q_getR (x := some (fe 0 fN + 4)) (pc2 := 93) d_X_override_90 rfl k_X_286 rfl (sh_fe0 hS (show 0 < 3 by decide) (show fN < 12 by omega)) (rf_fe_9 hR (show 0 < 3 by decide) (show fN < 12 by omega)) ?_
              refine q_calls (M2 := mi_X_countSome) (pc2 := 96) d_X_override_93 rfl k_X_289 cm_X_countSome cs_X_countSome rfl rfl (Nat.le_of_ble_eq_true rfl) (c_X_countSome (J := I) hS hR (A := fe 0 fN + 4) (sh_fe4 hS (show 0 < 3 by decide) (show fN < 12 by omega))) (d2 := d - 1) (by omega) (Nat.le_of_eq (Nat.zero_add _)) (Nat.le_of_eq (Nat.zero_add _)) ?_
              refine q_top (y := nI nOfN) ((FR.nov hKW (by omega) hP24 (hWF fN (by omega)) (hD.2.2.2.1 fN (by omega))).trans a6fN) ?_
              refine r_bipush (v := nI 8) (pc2 := 98) d_X_override_96 rfl (by decide) ?_
              refine q_icmp_lt (tgt := 108) (A := ((nOfN : Nat) : Int)) (B := (8 : Int)) (pc2 := 101) d_X_override_98 rfl rfl (nI_toInt (by omega)) (nI_toInt (by omega)) (fun c22 => ?_) (fun c22 => ?_)
              · refine r_aload (x := some (fe 0 fN)) (pc2 := 110) d_X_override_108 rfl rfl ?_
                refine q_getR (x := some (fe 0 fN + 4)) (pc2 := 113) d_X_override_110 rfl k_X_286 rfl (sh_fe0 hS (show 0 < 3 by decide) (show fN < 12 by omega)) (rf_fe_9 hR (show 0 < 3 by decide) (show fN < 12 by omega)) ?_
                refine r_iload (pc2 := 115) d_X_override_113 rfl rfl ?_
                refine r_iload_n (pc2 := 116) d_X_override_115 rfl rfl ?_
                refine q_iastore (q := pkkey) (pc2 := 117) d_X_override_116 rfl (sh_fe4 hS (show 0 < 3 by decide) (show fN < 12 by omega)) (nI_toInt (by omega)) (by omega) (fun I23 hI23 => ?_)
                refine r_iload (pc2 := 119) d_X_override_117 rfl rfl ?_
                refine Run.ret (some (.int (G (174 + 84 * fN + (20 + 2 * ko + 1))))) d_X_override_119 ⟨_, rfl⟩ ?_
                have hpv := (ov_put (v := (nI vN)) hKW.1 hOD enO hko hppkkey (hqo.trans ekey.symm))
                have e6r : (G (174 + 84 * fN + 6)).toInt.toNat = nOfN := enO
                first | (exfalso; omega) | exact XD.val (by (try simp only [efN, b0fN, b1fN, b2fN, b3fN, b4fN, b5fN, b6fN, b8fN, b9fN, evN, Int.toNat_natCast] at c4 c5 c13 c19 c22); (unfold o_override); (try dsimp only); (try simp only [efN, b0fN, b1fN, b2fN, b3fN, b4fN, b5fN, b6fN, b8fN, b9fN, evN, Int.toNat_natCast]); (repeat (first | rw [if_pos (by omega)] | rw [if_neg (by omega)] | (rw [hopkkey]; try dsimp only) | (rw [ho]; try dsimp only))); (try rfl); (all_goals first | rfl | (simp only [a0fN, a1fN, a2fN, a3fN, a4fN, a5fN, a6fN, a8fN, a9fN]; done) | (congr 2 <;> omega) | ((repeat' split) <;> first | rfl | (simp only [a0fN, a1fN, a2fN, a3fN, a4fN, a5fN, a6fN, a8fN, a9fN]; done) | (exfalso; omega) | (congr 2 <;> omega) | skip))) ⟨(FrD.rf.put hI23 (Or.inl (by first | omega | (unfold ru; omega)))), FrRD.rf, by (try simp only [efN, b0fN, b1fN, b2fN, b3fN, b4fN, b5fN, b6fN, b8fN, b9fN, evN, Int.toNat_natCast] at c4 c5 c13 c19 c22); (unfold g_override); (try dsimp only); (try simp only [efN, b0fN, b1fN, b2fN, b3fN, b4fN, b5fN, b6fN, b8fN, b9fN, evN, Int.toNat_natCast]); (repeat (first | rw [if_pos (by omega)] | rw [if_neg (by omega)] | (rw [hopkkey]; try dsimp only) | (rw [ho]; try dsimp only))); exact DR.f1 hW hWT (E := fN) (by omega) hD (fun a j q => rd_ne hI23 (by omega)) (fun j hj => u1_o (by omega)) (FR.ov (by decide) (by omega) hP24 hppkkey (hWF fN (by omega)) (hD.2.2.2.1 fN (by omega)) hI23 (fun w hw hn => u1_o (by omega)) (fun q hq => u1_o (by omega)) hpv)⟩
              · refine r_aload_n (x := some 0) (pc2 := 102) d_X_override_101 rfl rfl ?_
                refine r_bipush (v := (-36 : Int32)) (pc2 := 104) d_X_override_102 rfl (by decide) ?_
                refine q_callv (M2 := mi_X_refuse) (pc2 := 107) d_X_override_104 rfl k_X_75 cm_X_refuse cv_X_refuse (sh_0 hS) (by decide) rfl rfl rfl (Nat.le_of_ble_eq_true rfl) (c_X_refuse_4 (J := I) hS hR) (d2 := d - 1) (by omega) (Nat.le_of_eq (Nat.zero_add _)) (Nat.le_of_eq (Nat.zero_add _)) ?_
                obtain ⟨I24, hI24⟩ : ∃ x, x = u2 I 744 4 (I 744 4 + nI 1) := ⟨_, rfl⟩
                rw [← hI24]
                refine Run.ret (some (.int ((-36 : Int32)))) d_X_override_107 ⟨_, rfl⟩ ?_
                first | (exfalso; omega) | exact XD.bad hS 4 (by (try simp only [efN, b0fN, b1fN, b2fN, b3fN, b4fN, b5fN, b6fN, b8fN, b9fN, evN, Int.toNat_natCast] at c4 c5 c13 c19 c22); (unfold o_override); (try dsimp only); (try simp only [efN, b0fN, b1fN, b2fN, b3fN, b4fN, b5fN, b6fN, b8fN, b9fN, evN, Int.toNat_natCast]); (repeat (first | rw [if_pos (by omega)] | rw [if_neg (by omega)] | (rw [hopkkey]; try dsimp only) | (rw [ho]; try dsimp only))); (try rfl); (all_goals first | rfl | (simp only [a0fN, a1fN, a2fN, a3fN, a4fN, a5fN, a6fN, a8fN, a9fN]; done) | (congr 2 <;> omega) | ((repeat' split) <;> first | rfl | (simp only [a0fN, a1fN, a2fN, a3fN, a4fN, a5fN, a6fN, a8fN, a9fN]; done) | (exfalso; omega) | (congr 2 <;> omega) | skip))) (by decide) FrXR.rf FrX.rf hI24
        · refine r_aload_n (x := some 0) (pc2 := 50) d_X_override_49 rfl rfl ?_
          refine r_bipush (v := (-32 : Int32)) (pc2 := 52) d_X_override_50 rfl (by decide) ?_
          refine q_callv (M2 := mi_X_refuse) (pc2 := 55) d_X_override_52 rfl k_X_75 cm_X_refuse cv_X_refuse (sh_0 hS) (by decide) rfl rfl rfl (Nat.le_of_ble_eq_true rfl) (c_X_refuse_0 (J := I) hS hR) (d2 := d - 1) (by omega) (Nat.le_of_eq (Nat.zero_add _)) (Nat.le_of_eq (Nat.zero_add _)) ?_
          obtain ⟨I25, hI25⟩ : ∃ x, x = u2 I 744 0 (I 744 0 + nI 1) := ⟨_, rfl⟩
          rw [← hI25]
          refine Run.ret (some (.int ((-32 : Int32)))) d_X_override_55 ⟨_, rfl⟩ ?_
          first | (exfalso; omega) | exact XD.bad hS 0 (by (try simp only [efN, b0fN, b1fN, b2fN, b3fN, b4fN, b5fN, b6fN, b8fN, b9fN, Int.toNat_natCast] at c4 c5 c13); (unfold o_override); (try dsimp only); (try simp only [efN, b0fN, b1fN, b2fN, b3fN, b4fN, b5fN, b6fN, b8fN, b9fN, Int.toNat_natCast]); (repeat (first | rw [if_pos (by omega)] | rw [if_neg (by omega)] | (rw [hopkkey]; try dsimp only))); (try rfl); (all_goals first | rfl | (simp only [a0fN, a1fN, a2fN, a3fN, a4fN, a5fN, a6fN, a8fN, a9fN]; done) | (congr 2 <;> omega) | ((repeat' split) <;> first | rfl | (simp only [a0fN, a1fN, a2fN, a3fN, a4fN, a5fN, a6fN, a8fN, a9fN]; done) | (exfalso; omega) | (congr 2 <;> omega) | skip))) (by decide) FrXR.rf FrX.rf hI25
    · refine r_aload_n (x := some 0) (pc2 := 29) d_X_override_28 rfl rfl ?_
      refine r_bipush (v := (-32 : Int32)) (pc2 := 31) d_X_override_29 rfl (by decide) ?_
      refine q_callv (M2 := mi_X_refuse) (pc2 := 34) d_X_override_31 rfl k_X_75 cm_X_refuse cv_X_refuse (sh_0 hS) (by decide) rfl rfl rfl (Nat.le_of_ble_eq_true rfl) (c_X_refuse_0 (J := I) hS hR) (d2 := d - 1) (by omega) (Nat.le_of_eq (Nat.zero_add _)) (Nat.le_of_eq (Nat.zero_add _)) ?_
      obtain ⟨I26, hI26⟩ : ∃ x, x = u2 I 744 0 (I 744 0 + nI 1) := ⟨_, rfl⟩
      rw [← hI26]
      refine Run.ret (some (.int ((-32 : Int32)))) d_X_override_34 ⟨_, rfl⟩ ?_
      first | (exfalso; omega) | exact XD.bad hS 0 (by (unfold o_override); (try dsimp only); (try simp only [Int.toNat_natCast]); (repeat (first | rw [if_pos (by omega)] | rw [if_neg (by omega)] | (rw [hopkkey]; try dsimp only))); (try rfl); (all_goals first | rfl | (congr 2 <;> omega) | ((repeat' split) <;> first | rfl | (exfalso; omega) | (congr 2 <;> omega) | skip))) (by decide) FrXR.rf FrX.rf hI26
