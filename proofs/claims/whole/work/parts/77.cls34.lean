/-! THE CLASS: moved -/
theorem WFA_part {G : Nat → Int32} {nP nF nt F r k : Nat} {v : Int32} (h : WFA G nP nF nt) (hF : F < nF) (hr : (r : Int) < (G (174 + 84 * F + 4)).toInt) (hk : 1 ≤ k ∧ k ≤ 3) (hv : 0 ≤ v.toInt ∧ v.toInt ≤ 333) : WFA (u1 G (174 + 84 * F + 60 + 4 * r + k) v) nP nF nt := WFA_one h hF (fun j hj => by
    obtain ⟨tp, kl, sk, fb, nR, nN, nO, fr, to, -, -, -, -, ⟨-, b4, c4, -⟩, -⟩ := wfn (h.2.2.2.2.1 F hF)
    exact u1_o (by omega)) (WFF_part (h.2.2.2.2.1 F hF) hr hk hv)
theorem RK_u {G : Nat → Int32} {nP nF nt i : Nat} {v : Int32} {rk : Nat → Nat} (h : WFA G nP nF nt) (hr : RK G nF rk) (hi : ∀ F, F < nF → ∀ w, (w = 5 ∨ (14 ≤ w ∧ w < 20)) → i ≠ 174 + 84 * F + w) : RK (u1 G i v) nF rk := RK_congr h (fun F hF w hw => u1_o (fun e => hi F hF w hw e.symm)) hr
theorem RK_part {G : Nat → Int32} {nP nF nt F r k : Nat} {v : Int32} {rk : Nat → Nat} (h : WFA G nP nF nt) (hr : RK G nF rk) (h6 : r < 6) (hk : k ≤ 3) : RK (u1 G (174 + 84 * F + 60 + 4 * r + k) v) nF rk := RK_u h hr (fun E hE w hw => by omega)
theorem WFT_part {G : Nat → Int32} {nF nS F r k : Nat} {v : Int32} (h : WFT G nF nS) : WFT (u1 G (174 + 84 * F + 60 + 4 * r + k) v) nF nS := WFT_f h (Or.inl (by omega))
theorem l_X_moved {d : Nat} {J0 : Nat → Nat → Int32} {R : Nat → Nat → Option Nat} {L : Nat → Nat → Int64} {sh : Nat → Nat × Nat} {N : Nat} (hS : ShOK sh) (hR : RfOK R) {tK tF tC tS : Nat → Int32} {nt : Nat} (hV : TV tK tF tC nt) (hV2 : TV2 tK tF tC tS nt) (hnt6 : nt ≤ 1000000) {G G2 : Nat → Int32} {nP nF nS : Nat} (hW : WFA G nP nF nt) {rk : Nat → Nat} (hrk : RK G nF rk) (hW2 : WFA G2 nP nF nt) (hrk2 : RK G2 nF rk) (hD0 : DR tK tF tC tS J0 R sh nt 0 G nP nF nS) {P : Nat → Bool} {F : Nat} (hF : F < nF) (hP : ∀ p, P p = decide ((AN (TRK tK tF tC tS) G2 p F).1.toInt ≠ (AN (TRK tK tF tC tS) G p F).1.toInt)) {Q : Option Value → HS → Prop} (hq : ∀ K, FrX sh J0 K → Q (some (.int (bits P nP))) (K, R, L, sh, N)) (hd : 60 ≤ d) : ∀ (n_ : Nat) (i : Nat) (J : Nat → Nat → Int32), nP - i = n_ → (FrX sh J0 J) → (DR tK tF tC tS J R sh nt 2 G2 nP nF nS) → (i ≤ nP) → Run mi_X_moved d 0 0 74 [(0, .ref 0), (1, .int (nI F)), (5, .int (bits P i)), (6, .int (nI i))] [] (J, R, L, sh, N) Q := by
  intro n_
  induction n_ using Nat.strongRecOn with | ind n_ ih_ => ?_
  intro i J hn_ v0_ v1_ v2_
  obtain ⟨hPc, hP24, hFc, hF12, hWF, hWP⟩ := id hW
  have hd0J := DR.x hS hW (by decide) hD0 v0_ FrXR.rf
  refine r_iload (pc2 := 76) d_X_moved_74 rfl rfl ?_
  refine r_aload_n (x := some 0) (pc2 := 77) d_X_moved_76 rfl rfl ?_
  refine q_getR (x := some 1) (pc2 := 80) d_X_moved_77 rfl k_X_12 rfl (sh_0 hS) (rf_0_0 hR) ?_
  refine q_getR (x := some 2) (pc2 := 83) d_X_moved_80 rfl k_X_179 rfl (sh_1 hS) (rf_1_0 hR) ?_
  refine q_getI (x := nI nP) (pc2 := 86) d_X_moved_83 rfl k_X_189 (by decide) (sh_2 hS) hd0J.1.1 ?_
  refine q_icmp_ge (tgt := 121) (A := ((i : Nat) : Int)) (B := ((nP : Nat) : Int)) (pc2 := 89) d_X_moved_86 rfl rfl (nI_toInt (by omega)) (nI_toInt (by omega)) (fun c1 => ?_) (fun c1 => ?_)
  · refine r_iload (pc2 := 123) d_X_moved_121 rfl rfl ?_
    refine Run.ret (some (.int (bits P i))) d_X_moved_123 ⟨_, rfl⟩ ?_
    rw [show i = nP by omega]; exact hq J v0_
  · refine r_aload_n (x := some 0) (pc2 := 90) d_X_moved_89 rfl rfl ?_
    refine r_iload_n (pc2 := 91) d_X_moved_90 rfl rfl ?_
    refine r_iload (pc2 := 93) d_X_moved_91 rfl rfl ?_
    have d0K2 := DR.x hS hW (by decide) hD0 v0_ FrXR.rf
    refine r_callv (M2 := mi_X_answerOne) (pc2 := 96) d_X_moved_93 rfl k_X_321 cm_X_answerOne cv_X_answerOne (sh_0 hS) (by decide) rfl rfl rfl (Nat.le_of_ble_eq_true rfl) (c_X_answerOne (I := J) hS hR hV hV2 hnt6 hW d0K2 hrk (p := i) (by omega) (F := F) (by omega) FrN.rf (d := d - 1) (by omega)) (d2 := d - 1) (by omega) (Nat.le_of_eq (Nat.zero_add _)) (Nat.le_of_eq (Nat.zero_add _)) (fun r2 h2 hq2 => ?_)
    obtain ⟨K2, rfl, rfl, hnK2, -⟩ := hq2
    change Run _ _ _ _ _ _ [.int ((AN (TRK tK tF tC tS) G i F).1)] _ _
    have e2K2 := DR.n hS hW2 (by decide) (by decide) v1_ hnK2
    refine r_aload_n (x := some 0) (pc2 := 97) d_X_moved_96 rfl rfl ?_
    refine r_iload_n (pc2 := 98) d_X_moved_97 rfl rfl ?_
    refine r_iload (pc2 := 100) d_X_moved_98 rfl rfl ?_
    refine r_callv (M2 := mi_X_answerInTrial) (pc2 := 103) d_X_moved_100 rfl k_X_346 cm_X_answerInTrial cv_X_answerInTrial (sh_0 hS) (by decide) rfl rfl rfl (Nat.le_of_ble_eq_true rfl) (c_X_answerInTrial (I := K2) hS hR hV hV2 hnt6 hW2 e2K2 hrk2 (p := i) (by omega) (F := F) (by omega) FrN.rf (d := d - 1) (by omega)) (d2 := d - 1) (by omega) (Nat.le_of_eq (Nat.zero_add _)) (Nat.le_of_eq (Nat.zero_add _)) (fun r2 h2 hq2 => ?_)
    obtain ⟨K3, rfl, rfl, hnK3, -⟩ := hq2
    change Run _ _ _ _ _ _ [.int ((AN (TRK tK tF tC tS) G2 i F).1), .int ((AN (TRK tK tF tC tS) G i F).1)] _ _
    have e2K3 := DR.n hS hW2 (by decide) (by decide) e2K2 hnK3
    refine q_icmp_eq (tgt := 115) (A := ((AN (TRK tK tF tC tS) G i F).1).toInt) (B := ((AN (TRK tK tF tC tS) G2 i F).1).toInt) (pc2 := 106) d_X_moved_103 rfl rfl (rfl) (rfl) (fun c4 => ?_) (fun c4 => ?_)
    · refine q_iinc (b := 1) (pc2 := 118) d_X_moved_115 rfl rfl (by decide) (Nat.le_of_ble_eq_true rfl) ?_
      refine r_goto (tgt := 74) d_X_moved_118 rfl ?_
      rw [show bits P i = bits P (i + 1) from by rw [bits_s, if_neg (by rw [hP]; simp only [decide_eq_true_eq]; exact fun q => q c4.symm)]]
      refine Run.sub (l2 := [(0, .ref 0), (1, .int (nI F)), (5, .int (bits P (i + 1))), (6, .int (nI (i + 1)))]) ⟨rfl, rfl, rfl, rfl, trivial⟩ ?_
      exact ih_ (nP - (i + 1)) (by omega) (i + 1) K3 rfl ((FrX.tr (FrX.tr v0_ (hnK2.x (by decide))) (hnK3.x (by decide)))) (e2K3) (by omega)
    · refine r_iload (pc2 := 108) d_X_moved_106 rfl rfl ?_
      refine r_iconst (v := nI 1) (pc2 := 109) d_X_moved_108 rfl (by decide) ?_
      refine r_iload (pc2 := 111) d_X_moved_109 rfl rfl ?_
      refine r_ishl (pc2 := 112) d_X_moved_111 rfl ?_
      refine r_ior (pc2 := 113) d_X_moved_112 rfl ?_
      refine r_istore (pc2 := 115) d_X_moved_113 rfl (Nat.le_of_ble_eq_true rfl) ?_
      refine q_iinc (b := 1) (pc2 := 118) d_X_moved_115 rfl rfl (by decide) (Nat.le_of_ble_eq_true rfl) ?_
      refine r_goto (tgt := 74) d_X_moved_118 rfl ?_
      rw [show (bits P i) ||| ((nI 1) <<< ((nI i) &&& 31)) = bits P (i + 1) from by rw [bits_s, if_pos (by rw [hP]; exact decide_eq_true (fun q => c4 q.symm))]]
      refine Run.sub (l2 := [(0, .ref 0), (1, .int (nI F)), (5, .int (bits P (i + 1))), (6, .int (nI (i + 1)))]) ⟨rfl, rfl, rfl, rfl, trivial⟩ ?_
      exact ih_ (nP - (i + 1)) (by omega) (i + 1) K3 rfl ((FrX.tr (FrX.tr v0_ (hnK2.x (by decide))) (hnK3.x (by decide)))) (e2K3) (by omega)
theorem c_X_moved {d : Nat} {I : Nat → Nat → Int32} {R : Nat → Nat → Option Nat} {L : Nat → Nat → Int64} {sh : Nat → Nat × Nat} {N : Nat} (hS : ShOK sh) (hR : RfOK R) {tK tF tC tS : Nat → Int32} {nt : Nat} (hV : TV tK tF tC nt) (hV2 : TV2 tK tF tC tS nt) (hnt6 : nt ≤ 1000000) {G : Nat → Int32} {nP nF nS : Nat} (hW : WFA G nP nF nt) (hWT : WFT G nF nS) (hKW : WFK G nP nF) {rk : Nat → Nat} (hrk : RK G nF rk) (hD : DR tK tF tC tS I R sh nt 0 G nP nF nS) {f : Int32} {r : Int32} {k : Int32} {q : Int32} (hd : 90 ≤ d) : Mt mi_X_moved d 0 0 [.ref 0, .int f, .int r, .int k, .int q] (I, R, L, sh, N) (XP I R L sh N (o_moved (TRK tK tF tC tS) G nP nF f r k q) (fun K _ => FrX sh I K)) := by
  obtain ⟨hPc, hP24, hFc, hF12, hWF, hWP⟩ := id hW
  refine Mt.of pn_X (Nat.le_of_ble_eq_true rfl) ?_
  show Run mi_X_moved d 0 0 0 [(0, .ref 0), (1, .int f), (2, .int r), (3, .int k), (4, .int q)] [] (I, R, L, sh, N) _
  refine r_aload_n (x := some 0) (pc2 := 1) d_X_moved_0 rfl rfl ?_
  refine r_iload_n (pc2 := 2) d_X_moved_1 rfl rfl ?_
  refine r_iload_n (pc2 := 3) d_X_moved_2 rfl rfl ?_
  refine r_iload_n (pc2 := 4) d_X_moved_3 rfl rfl ?_
  refine q_callv (M2 := mi_X_isPlaceOfPart) (pc2 := 7) d_X_moved_4 rfl k_X_260 cm_X_isPlaceOfPart cv_X_isPlaceOfPart (sh_0 hS) (by decide) rfl rfl rfl (Nat.le_of_ble_eq_true rfl) (c_X_isPlaceOfPart (f := f) (r := r) (v := k) hS hR hV hV2 hnt6 hW hWT hKW hrk hD (by omega)) (d2 := d - 1) (by omega) (Nat.le_of_eq (Nat.zero_add _)) (Nat.le_of_eq (Nat.zero_add _)) ?_
  refine q_bif_eq (tgt := 19) (pc2 := 10) d_X_moved_7 rfl rfl (fun c1 => ?_) (fun c1 => ?_)
  · refine r_aload_n (x := some 0) (pc2 := 20) d_X_moved_19 rfl rfl ?_
    refine r_bipush (v := (-32 : Int32)) (pc2 := 22) d_X_moved_20 rfl (by decide) ?_
    refine q_callv (M2 := mi_X_refuse) (pc2 := 25) d_X_moved_22 rfl k_X_75 cm_X_refuse cv_X_refuse (sh_0 hS) (by decide) rfl rfl rfl (Nat.le_of_ble_eq_true rfl) (c_X_refuse_0 (J := I) hS hR) (d2 := d - 1) (by omega) (Nat.le_of_eq (Nat.zero_add _)) (Nat.le_of_eq (Nat.zero_add _)) ?_
    obtain ⟨I2, hI2⟩ : ∃ x, x = u2 I 744 0 (I 744 0 + nI 1) := ⟨_, rfl⟩
    rw [← hI2]
    refine Run.ret (some (.int ((-32 : Int32)))) d_X_moved_25 ⟨_, rfl⟩ ?_
    first | (exfalso; omega) | exact XP.bad hS 0 (by (try simp only [okPart, Int.toNat_natCast] at c1); (unfold o_moved); (try dsimp only); (try simp only [okPart, Int.toNat_natCast]); (repeat (first | rw [if_pos (by omega)] | rw [if_neg (by omega)])); (try rfl); (all_goals first | rfl | (congr 2 <;> omega) | ((repeat' split) <;> first | rfl | (exfalso; omega) | (congr 2 <;> omega) | skip))) (by decide) FrXR.rf FrX.rf hI2
  · obtain ⟨q1c1, q2c1⟩ := id c1
    obtain ⟨fN, hfN, rfl, efN⟩ := nat_of q1c1.1
    obtain ⟨tpfN, klfN, skfN, fbfN, nRfN, nNfN, nOfN, frfN, tofN, ⟨a0fN, b0fN, cc0fN, dd0fN⟩, ⟨a1fN, b1fN, cc1fN, dd1fN⟩, ⟨a2fN, b2fN, cc2fN, dd2fN⟩, ⟨a3fN, b3fN, cc3fN, dd3fN⟩, ⟨a4fN, b4fN, cc4fN, dd4fN⟩, ⟨a5fN, b5fN, cc5fN, dd5fN⟩, ⟨a6fN, b6fN, cc6fN, dd6fN⟩, ⟨a8fN, b8fN, cc8fN, dd8fN⟩, ⟨a9fN, b9fN, cc9fN, dd9fN⟩⟩ := wfn (hWF fN (by omega))
    obtain ⟨-, -, -, -, -, -, -, w7fN, -, -, wNfN, wRfN, wKfN, wOfN⟩ := hWF fN (by omega)
    obtain ⟨⟨x0fN, x1fN, x2fN, x3fN, x4fN, x5fN, x6fN, x7fN, x8fN⟩, xnfN, xofN, xkfN, xcfN, xrfN⟩ := hD.2.2.2.1 fN (by omega)
    have hflfN := fe_lt (e := 0) (by decide) (show fN < 12 by omega)
    unfold dk at hflfN
    simp only [efN, Int.toNat_natCast, b4fN] at q1c1
    obtain ⟨rN, hrN, rfl, erN⟩ := nat_of q1c1.2
    obtain ⟨rtfNrN, rafNrN, rbfNrN, rcfNrN, ⟨t0fNrN, t1fNrN, t2fNrN⟩, ⟨u0fNrN, u1fNrN, u2fNrN⟩, ⟨v0fNrN, v1fNrN, v2fNrN⟩, ⟨z0fNrN, z1fNrN, z2fNrN⟩⟩ := wrn (wRfN rN (by omega))
    obtain ⟨rffNrN, rsfNrN, cfNrN, mfNrN, bbfNrN, rrfNrN, cofNrN, bnfNrN, ttfNrN⟩ := xrfN rN (by unfold nRof; rw [b4fN, Int.toNat_natCast]; omega)
    have cmfNrN := cofNrN.2.2.1
    have c781fNrN := cofNrN.2.2.2.1
    (try simp only [efN, Int.toNat_natCast, b0fN] at q2c1)
    obtain ⟨kN, hkN, gkN, rfl, ekN⟩ := nat_of' (show (0 : Int) ≤ 1 by decide) q2c1
    refine r_aload_n (x := some 0) (pc2 := 11) d_X_moved_10 rfl rfl ?_
    refine r_iload (pc2 := 13) d_X_moved_11 rfl rfl ?_
    refine q_callv (M2 := mi_X_isPart) (pc2 := 16) d_X_moved_13 rfl k_X_264 cm_X_isPart cv_X_isPart (sh_0 hS) (by decide) rfl rfl rfl (Nat.le_of_ble_eq_true rfl) (c_X_isPart (s := q)) (d2 := d - 1) (by omega) (Nat.le_of_eq (Nat.zero_add _)) (Nat.le_of_eq (Nat.zero_add _)) ?_
    refine q_bif_ne (tgt := 26) (pc2 := 19) d_X_moved_16 rfl rfl (fun c3 => ?_) (fun c3 => ?_)
    · obtain ⟨qN, hqN, gqN, rfl, eqN⟩ := nat_of' (Int.le_refl 0) c3
      refine r_aload_n (x := some 0) (pc2 := 27) d_X_moved_26 rfl rfl ?_
      refine r_iload_n (pc2 := 28) d_X_moved_27 rfl rfl ?_
      refine r_iload_n (pc2 := 29) d_X_moved_28 rfl rfl ?_
      refine q_callv (M2 := mi_X_ruleAt) (pc2 := 32) d_X_moved_29 rfl k_X_125 cm_X_ruleAt cv_X_ruleAt (sh_0 hS) (by decide) rfl rfl rfl (Nat.le_of_ble_eq_true rfl) (c_X_ruleAt (I := I) (F := fN) (r := rN) hS hR (by omega) (by omega)) (d2 := d - 1) (by omega) (Nat.le_of_eq (Nat.zero_add _)) (Nat.le_of_eq (Nat.zero_add _)) ?_
      have hm1 : (-1 : Int32).toInt = -1 := by decide
      by_cases hfx : 1000 ≤ (G (174 + 84 * fN + 60 + 4 * rN + 1)).toInt
      · have hfv : (G (174 + 84 * fN + 60 + 4 * rN + 1) - nI 1000).toInt = ((rafNrN : Nat) : Int) - ((1000 : Nat) : Int) := by rw [u0fNrN]; exact nI_sub_toInt (by omega) (by omega)
        refine q_callv (M2 := mi_Ru_isFixed) (pc2 := 35) d_X_moved_32 rfl k_X_267 cm_Ru_isFixed cv_Ru_isFixed (sh_ru hS (show 0 < 3 by decide) (show fN < 12 by omega) (show rN < 6 by omega)) (by decide) rfl rfl rfl (Nat.le_of_ble_eq_true rfl) (c_Ru_isFixed (J := I) (q := ru 0 fN rN) (sh_ru hS (show 0 < 3 by decide) (show fN < 12 by omega) (show rN < 6 by omega)) (sh_rp hS (show 0 < 3 by decide) (show fN < 12 by omega) (show rN < 6 by omega)) (rf_rp hR (show 0 < 3 by decide) (show fN < 12 by omega) (show rN < 6 by omega))) (d2 := d - 1) (by omega) (Nat.le_of_eq (Nat.zero_add _)) (Nat.le_of_eq (Nat.zero_add _)) ?_
        rw [show I (ru 0 fN rN) 1 = G (174 + 84 * fN + 60 + 4 * rN + 1) - nI 1000 from rffNrN hfx]
        refine q_bif_eq (tgt := 45) (pc2 := 38) d_X_moved_35 rfl rfl (fun c4 => ?_) (fun c4 => ?_)
        · exfalso; omega
        · refine r_aload_n (x := some 0) (pc2 := 39) d_X_moved_38 rfl rfl ?_
          refine r_bipush (v := (-35 : Int32)) (pc2 := 41) d_X_moved_39 rfl (by decide) ?_
          refine q_callv (M2 := mi_X_refuse) (pc2 := 44) d_X_moved_41 rfl k_X_75 cm_X_refuse cv_X_refuse (sh_0 hS) (by decide) rfl rfl rfl (Nat.le_of_ble_eq_true rfl) (c_X_refuse_3 (J := I) hS hR) (d2 := d - 1) (by omega) (Nat.le_of_eq (Nat.zero_add _)) (Nat.le_of_eq (Nat.zero_add _)) ?_
          obtain ⟨I5, hI5⟩ : ∃ x, x = u2 I 744 3 (I 744 3 + nI 1) := ⟨_, rfl⟩
          rw [← hI5]
          refine Run.ret (some (.int ((-35 : Int32)))) d_X_moved_44 ⟨_, rfl⟩ ?_
          first | (exfalso; omega) | exact XP.bad hS 3 (by (try simp only [okPart, efN, b0fN, b1fN, b2fN, b3fN, b4fN, b5fN, b6fN, b8fN, b9fN, erN, t1fNrN, u1fNrN, v1fNrN, z1fNrN, ekN, eqN, Int.toNat_natCast] at c1 c3 c4); (unfold o_moved); (try dsimp only); (try simp only [okPart, efN, b0fN, b1fN, b2fN, b3fN, b4fN, b5fN, b6fN, b8fN, b9fN, erN, t1fNrN, u1fNrN, v1fNrN, z1fNrN, ekN, eqN, Int.toNat_natCast]); (repeat (first | rw [if_pos (by omega)] | rw [if_neg (by omega)])); (try rfl); (all_goals first | rfl | (simp only [a0fN, a1fN, a2fN, a3fN, a4fN, a5fN, a6fN, a8fN, a9fN]; done) | (congr 2 <;> omega) | ((repeat' split) <;> first | rfl | (simp only [a0fN, a1fN, a2fN, a3fN, a4fN, a5fN, a6fN, a8fN, a9fN]; done) | (exfalso; omega) | (congr 2 <;> omega) | skip))) (by decide) FrXR.rf FrX.rf hI5
      · have hrs := rsfNrN hfx
        refine q_callv (M2 := mi_Ru_isFixed) (pc2 := 35) d_X_moved_32 rfl k_X_267 cm_Ru_isFixed cv_Ru_isFixed (sh_ru hS (show 0 < 3 by decide) (show fN < 12 by omega) (show rN < 6 by omega)) (by decide) rfl rfl rfl (Nat.le_of_ble_eq_true rfl) (c_Ru_isFixed (J := I) (q := ru 0 fN rN) (sh_ru hS (show 0 < 3 by decide) (show fN < 12 by omega) (show rN < 6 by omega)) (sh_rp hS (show 0 < 3 by decide) (show fN < 12 by omega) (show rN < 6 by omega)) (rf_rp hR (show 0 < 3 by decide) (show fN < 12 by omega) (show rN < 6 by omega))) (d2 := d - 1) (by omega) (Nat.le_of_eq (Nat.zero_add _)) (Nat.le_of_eq (Nat.zero_add _)) ?_
        rw [show I (ru 0 fN rN) 1 = (-1 : Int32) from hrs.1]
        refine q_bif_eq (tgt := 45) (pc2 := 38) d_X_moved_35 rfl rfl (fun c6 => ?_) (fun c6 => ?_)
        · refine r_aload_n (x := some 0) (pc2 := 46) d_X_moved_45 rfl rfl ?_
          refine q_getR (x := some 479) (pc2 := 49) d_X_moved_46 rfl k_X_19 rfl (sh_0 hS) (rf_0_2 hR) ?_
          refine r_aload_n (x := some 0) (pc2 := 50) d_X_moved_49 rfl rfl ?_
          refine q_getR (x := some 1) (pc2 := 53) d_X_moved_50 rfl k_X_12 rfl (sh_0 hS) (rf_0_0 hR) ?_
          refine r_callv (M2 := mi_De_become) (pc2 := 56) d_X_moved_53 rfl k_X_339 cm_De_become cv_De_become (sh_479 hS) (by decide) rfl rfl rfl (Nat.le_of_ble_eq_true rfl) (c_De_become_02 (I := I) hS hR hW hWT.2.1 hD (d := d - 1) (by omega)) (d2 := d - 1) (by omega) (Nat.le_of_eq (Nat.zero_add _)) (Nat.le_of_eq (Nat.zero_add _)) (fun r2 h2 hq2 => ?_)
          obtain ⟨rfl, K7, R8, rfl, hfK7, hbR8, hdK7⟩ := hq2
          change Run _ _ _ _ _ _ [] _ _
          have hrR8 := hbR8.2 hR
          have hr6 : rN < 6 := by omega
          refine r_aload_n (x := some 0) (pc2 := 57) d_X_moved_56 rfl rfl ?_
          refine q_getR (x := some 479) (pc2 := 60) d_X_moved_57 rfl k_X_19 rfl (sh_0 hS) (rf_0_2 hrR8) ?_
          refine r_iload_n (pc2 := 61) d_X_moved_60 rfl rfl ?_
          refine r_iload_n (pc2 := 62) d_X_moved_61 rfl rfl ?_
          refine r_iload_n (pc2 := 63) d_X_moved_62 rfl rfl ?_
          refine r_iload (pc2 := 65) d_X_moved_63 rfl rfl ?_
          refine r_callv (M2 := mi_De_setPart) (pc2 := 68) d_X_moved_65 rfl k_X_358 cm_De_setPart cv_De_setPart (sh_479 hS) (by decide) rfl rfl rfl (Nat.le_of_ble_eq_true rfl) (c_De_setPart_2 (J := K7) (R := R8) hS hrR8 hW hWT hdK7 (F := fN) (r := rN) (k := kN) (by omega) (by omega) (by omega) (v := nI qN) (by rw [nI_toInt (by omega)]; omega) (d := d - 1) (by omega)) (d2 := d - 1) (by omega) (Nat.le_of_eq (Nat.zero_add _)) (Nat.le_of_eq (Nat.zero_add _)) (fun r2 h2 hq2 => ?_)
          obtain ⟨rfl, K9, rfl, hfK9, hdK9⟩ := hq2
          change Run _ _ _ _ _ _ [] _ _
          rw [stpP_y ⟨by rw [b4fN]; omega, by exact hfx⟩] at hdK9
          refine r_iconst (v := nI 0) (pc2 := 69) d_X_moved_68 rfl (by decide) ?_
          refine r_istore (pc2 := 71) d_X_moved_69 rfl (Nat.le_of_ble_eq_true rfl) ?_
          refine r_iconst (v := nI 0) (pc2 := 72) d_X_moved_71 rfl (by decide) ?_
          refine r_istore (pc2 := 74) d_X_moved_72 rfl (Nat.le_of_ble_eq_true rfl) ?_
          have hvv : 0 ≤ (nI qN).toInt ∧ (nI qN).toInt ≤ 333 := by rw [nI_toInt (by omega)]; omega
          have w2 := WFA_part (v := nI qN) hW (show fN < nF by omega) (show (rN : Int) < (G (174 + 84 * fN + 4)).toInt by rw [b4fN]; omega) (show 1 ≤ kN ∧ kN ≤ 3 by omega) hvv
          have rk2 := RK_part (v := nI qN) (F := fN) hW hrk hr6 (show kN ≤ 3 by omega)
          have d00 := DR.x hS hW (by decide) hD ((hfK7.tr hfK9)).x hbR8.x
          refine Run.sub (l2 := [(0, .ref 0), (1, .int (nI fN)), (5, .int (nI 0)), (6, .int (nI 0))]) ⟨rfl, rfl, rfl, rfl, trivial⟩ ?_
          exact l_X_moved (J0 := K9) (R := R8) hS hrR8 hV hV2 hnt6 hW hrk w2 rk2 d00 (F := fN) (by omega) (P := fun p => decide ((AN (TRK tK tF tC tS) (u1 G (174 + 84 * fN + 60 + 4 * rN + kN) (nI qN)) p fN).1.toInt ≠ (AN (TRK tK tF tC tS) G p fN).1.toInt)) (fun p => rfl) (fun K hK => XP.val (by (try simp only [okPart, efN, b0fN, b1fN, b2fN, b3fN, b4fN, b5fN, b6fN, b8fN, b9fN, erN, t1fNrN, u1fNrN, v1fNrN, z1fNrN, ekN, eqN, Int.toNat_natCast] at c1 c3 c6); (unfold o_moved okPart); (try dsimp only); (try simp only [okPart, efN, b0fN, b1fN, b2fN, b3fN, b4fN, b5fN, b6fN, b8fN, b9fN, erN, t1fNrN, u1fNrN, v1fNrN, z1fNrN, ekN, eqN, Int.toNat_natCast]); (repeat (first | rw [if_pos (by omega)] | rw [if_neg (by omega)])); (try rfl); (all_goals first | rfl | (simp only [a0fN, a1fN, a2fN, a3fN, a4fN, a5fN, a6fN, a8fN, a9fN]; done) | (congr 2 <;> omega) | ((repeat' split) <;> first | rfl | (simp only [a0fN, a1fN, a2fN, a3fN, a4fN, a5fN, a6fN, a8fN, a9fN]; done) | (exfalso; omega) | (congr 2 <;> omega) | skip))) hbR8.x (FrX.tr ((hfK7.tr hfK9)).x hK)) (by omega) _ 0 K9 rfl FrX.rf hdK9 (Nat.zero_le _)
        · refine r_aload_n (x := some 0) (pc2 := 39) d_X_moved_38 rfl rfl ?_
          refine r_bipush (v := (-35 : Int32)) (pc2 := 41) d_X_moved_39 rfl (by decide) ?_
          refine q_callv (M2 := mi_X_refuse) (pc2 := 44) d_X_moved_41 rfl k_X_75 cm_X_refuse cv_X_refuse (sh_0 hS) (by decide) rfl rfl rfl (Nat.le_of_ble_eq_true rfl) (c_X_refuse_3 (J := I) hS hR) (d2 := d - 1) (by omega) (Nat.le_of_eq (Nat.zero_add _)) (Nat.le_of_eq (Nat.zero_add _)) ?_
          obtain ⟨I10, hI10⟩ : ∃ x, x = u2 I 744 3 (I 744 3 + nI 1) := ⟨_, rfl⟩
          rw [← hI10]
          refine Run.ret (some (.int ((-35 : Int32)))) d_X_moved_44 ⟨_, rfl⟩ ?_
          first | (exfalso; omega) | exact XP.bad hS 3 (by (try simp only [okPart, efN, b0fN, b1fN, b2fN, b3fN, b4fN, b5fN, b6fN, b8fN, b9fN, erN, t1fNrN, u1fNrN, v1fNrN, z1fNrN, ekN, eqN, Int.toNat_natCast] at c1 c3 c6); (unfold o_moved); (try dsimp only); (try simp only [okPart, efN, b0fN, b1fN, b2fN, b3fN, b4fN, b5fN, b6fN, b8fN, b9fN, erN, t1fNrN, u1fNrN, v1fNrN, z1fNrN, ekN, eqN, Int.toNat_natCast]); (repeat (first | rw [if_pos (by omega)] | rw [if_neg (by omega)])); (try rfl); (all_goals first | rfl | (simp only [a0fN, a1fN, a2fN, a3fN, a4fN, a5fN, a6fN, a8fN, a9fN]; done) | (congr 2 <;> omega) | ((repeat' split) <;> first | rfl | (simp only [a0fN, a1fN, a2fN, a3fN, a4fN, a5fN, a6fN, a8fN, a9fN]; done) | (exfalso; omega) | (congr 2 <;> omega) | skip))) (by decide) FrXR.rf FrX.rf hI10
    · refine r_aload_n (x := some 0) (pc2 := 20) d_X_moved_19 rfl rfl ?_
      refine r_bipush (v := (-32 : Int32)) (pc2 := 22) d_X_moved_20 rfl (by decide) ?_
      refine q_callv (M2 := mi_X_refuse) (pc2 := 25) d_X_moved_22 rfl k_X_75 cm_X_refuse cv_X_refuse (sh_0 hS) (by decide) rfl rfl rfl (Nat.le_of_ble_eq_true rfl) (c_X_refuse_0 (J := I) hS hR) (d2 := d - 1) (by omega) (Nat.le_of_eq (Nat.zero_add _)) (Nat.le_of_eq (Nat.zero_add _)) ?_
      obtain ⟨I11, hI11⟩ : ∃ x, x = u2 I 744 0 (I 744 0 + nI 1) := ⟨_, rfl⟩
      rw [← hI11]
      refine Run.ret (some (.int ((-32 : Int32)))) d_X_moved_25 ⟨_, rfl⟩ ?_
      first | (exfalso; omega) | exact XP.bad hS 0 (by (try simp only [okPart, efN, b0fN, b1fN, b2fN, b3fN, b4fN, b5fN, b6fN, b8fN, b9fN, erN, t1fNrN, u1fNrN, v1fNrN, z1fNrN, ekN, Int.toNat_natCast] at c1 c3); (unfold o_moved); (try dsimp only); (try simp only [okPart, efN, b0fN, b1fN, b2fN, b3fN, b4fN, b5fN, b6fN, b8fN, b9fN, erN, t1fNrN, u1fNrN, v1fNrN, z1fNrN, ekN, Int.toNat_natCast]); (repeat (first | rw [if_pos (by omega)] | rw [if_neg (by omega)])); (try rfl); (all_goals first | rfl | (simp only [a0fN, a1fN, a2fN, a3fN, a4fN, a5fN, a6fN, a8fN, a9fN]; done) | (congr 2 <;> omega) | ((repeat' split) <;> first | rfl | (simp only [a0fN, a1fN, a2fN, a3fN, a4fN, a5fN, a6fN, a8fN, a9fN]; done) | (exfalso; omega) | (congr 2 <;> omega) | skip))) (by decide) FrXR.rf FrX.rf hI11
