/-! THE CLASS: steps done -/
theorem stpP_y {G : Nat → Int32} {F r k : Nat} {v : Int32} (h : (r : Int) < (G (174 + 84 * F + 4)).toInt ∧ ¬ 1000 ≤ (G (174 + 84 * F + 60 + 4 * r + 1)).toInt) : stpP G F r k v = u1 G (174 + 84 * F + 60 + 4 * r + k) v := if_pos h
theorem stpP_n {G : Nat → Int32} {F r k : Nat} {v : Int32} (h : ¬ ((r : Int) < (G (174 + 84 * F + 4)).toInt ∧ ¬ 1000 ≤ (G (174 + 84 * F + 60 + 4 * r + 1)).toInt)) : stpP G F r k v = G := if_neg h
/-- whether a rule is there and shared, as the class tells it -/
theorem RR.shared {K F C S : Nat → Int32} {I : Nat → Nat → Int32} {R : Nat → Nat → Option Nat} {sh : Nat → Nat × Nat} {nt d E r : Nat} {G : Nat → Int32} (h : RR K F C S I R sh nt d G E r) (hb : 0 ≤ (G (174 + 84 * E + 60 + 4 * r + 1)).toInt ∧ (G (174 + 84 * E + 60 + 4 * r + 1)).toInt ≤ 1003) : (I (ru d E r) 1).toInt = -1 ↔ ¬ 1000 ≤ (G (174 + 84 * E + 60 + 4 * r + 1)).toInt := by
  by_cases hf : 1000 ≤ (G (174 + 84 * E + 60 + 4 * r + 1)).toInt
  · rw [h.1 hf]
    obtain ⟨a, ha⟩ : ∃ a : Nat, (G (174 + 84 * E + 60 + 4 * r + 1)) = nI a ∧ a ≤ 1003 ∧ 1000 ≤ a := ⟨(G (174 + 84 * E + 60 + 4 * r + 1)).toInt.toNat, eq_nI (Int.toNat_of_nonneg (by omega)).symm, by omega, by omega⟩
    rw [ha.1, nI_sub_toInt (by omega) (by omega), nI_toInt (by omega)]; omega
  · rw [(h.2.1 hf).1]
    exact ⟨fun _ => hf, fun _ => by decide⟩
theorem c_Fe_isSharedE_0 {d : Nat} {J : Nat → Nat → Int32} {R : Nat → Nat → Option Nat} {L : Nat → Nat → Int64} {sh : Nat → Nat × Nat} {N : Nat} (hS : ShOK sh) (hR : RfOK R) {tK tF tC tS : Nat → Int32} {nt : Nat} {G : Nat → Int32} {nP nF nS : Nat} (hW : WFA G nP nF nt) (hT : WFT G nF nS) (hD : DR tK tF tC tS J R sh nt 0 G nP nF nS) {F r : Nat} (hF : F < nF) (hr : r ≤ 5) (hd : 1 ≤ d) : Me mi_Fe_isShared d 0 0 [.ref (fe 0 F), .int (nI r)] (J, R, L, sh, N) (some (.int (bI ((r : Int) < (G (174 + 84 * F + 4)).toInt ∧ ¬ 1000 ≤ (G (174 + 84 * F + 60 + 4 * r + 1)).toInt)))) (J, R, L, sh, N) := by
  obtain ⟨hPc, hP24, hFc, hF12, hWF, hWP⟩ := id hW
  have hS24 := hT.2.1
  refine Mt.of pn_Fe (Nat.le_of_ble_eq_true rfl) ?_
  show Run mi_Fe_isShared d 0 0 0 [(0, .ref (fe 0 F)), (1, .int (nI r))] [] (J, R, L, sh, N) _
  obtain ⟨tpF, klF, skF, fbF, nRF, nNF, nOF, frF, toF, ⟨a0F, b0F, cc0F, dd0F⟩, ⟨a1F, b1F, cc1F, dd1F⟩, ⟨a2F, b2F, cc2F, dd2F⟩, ⟨a3F, b3F, cc3F, dd3F⟩, ⟨a4F, b4F, cc4F, dd4F⟩, ⟨a5F, b5F, cc5F, dd5F⟩, ⟨a6F, b6F, cc6F, dd6F⟩, ⟨a8F, b8F, cc8F, dd8F⟩, ⟨a9F, b9F, cc9F, dd9F⟩⟩ := wfn (hWF F (by omega))
  obtain ⟨-, -, -, -, -, -, -, w7F, -, -, wNF, wRF, wKF, wOF⟩ := hWF F (by omega)
  obtain ⟨⟨x0F, x1F, x2F, x3F, x4F, x5F, x6F, x7F, x8F⟩, xnF, xoF, xkF, xcF, xrF⟩ := hD.2.2.2.1 F (by omega)
  refine r_iload_n (pc2 := 1) d_Fe_isShared_0 rfl rfl ?_
  refine q_if_lt (tgt := 28) (A := ((r : Nat) : Int)) (pc2 := 4) d_Fe_isShared_1 rfl rfl (nI_toInt (by omega)) (fun c1 => ?_) (fun c1 => ?_)
  · exfalso; omega
  refine r_iload_n (pc2 := 5) d_Fe_isShared_4 rfl rfl ?_
  refine r_aload_n (x := some (fe 0 F)) (pc2 := 6) d_Fe_isShared_5 rfl rfl ?_
  refine q_getI (x := nI nRF) (pc2 := 9) d_Fe_isShared_6 rfl k_Fe_30 (by decide) (sh_fe0 hS (show 0 < 3 by decide) (show F < 12 by omega)) (x4F.trans a4F) ?_
  refine q_icmp_ge (tgt := 28) (A := ((r : Nat) : Int)) (B := ((nRF : Nat) : Int)) (pc2 := 12) d_Fe_isShared_9 rfl rfl (nI_toInt (by omega)) (nI_toInt (by omega)) (fun c2 => ?_) (fun c2 => ?_)
  · refine r_iconst (v := nI 0) (pc2 := 29) d_Fe_isShared_28 rfl (by decide) ?_
    refine Run.ret (some (.int (nI 0))) d_Fe_isShared_29 ⟨_, rfl, by decide⟩ ?_
    first | (exfalso; omega) | exact ⟨by rw [bI_f (fun q => by omega)]; rfl, rfl⟩
  · have hrn : r < nRof G F := by unfold nRof; rw [b4F, Int.toNat_natCast]; omega
    have hrr := xrF r hrn
    have hsh := hrr.shared (by have := wRF r (by omega); omega)
    obtain ⟨x, hx⟩ : ∃ x, x = J (ru 0 F r) 1 := ⟨_, rfl⟩
    rw [← hx] at hsh
    refine r_aload_n (x := some (fe 0 F)) (pc2 := 13) d_Fe_isShared_12 rfl rfl ?_
    refine q_getR (x := some (fe 0 F + 1)) (pc2 := 16) d_Fe_isShared_13 rfl k_Fe_26 rfl (sh_fe0 hS (show 0 < 3 by decide) (show F < 12 by omega)) (rf_fe_4 hR (show 0 < 3 by decide) (show F < 12 by omega)) ?_
    refine r_iload_n (pc2 := 17) d_Fe_isShared_16 rfl rfl ?_
    refine q_aaload (q := r) (x := some (ru 0 F r)) (pc2 := 18) d_Fe_isShared_17 rfl (sh_fe1 hS (show 0 < 3 by decide) (show F < 12 by omega)) (by decide) (by decide) (nI_toInt (by omega)) (by omega) (rf_ru hR (show 0 < 3 by decide) (show F < 12 by omega) (show r < 6 by omega)) ?_
    refine q_callv (M2 := mi_Ru_isFixed) (pc2 := 21) d_Fe_isShared_18 rfl k_Fe_95 cm_Ru_isFixed cv_Ru_isFixed (sh_ru hS (show 0 < 3 by decide) (show F < 12 by omega) (show r < 6 by omega)) (by decide) rfl rfl rfl (Nat.le_of_ble_eq_true rfl) (c_Ru_isFixed (J := J) (q := ru 0 F r) (sh_ru hS (show 0 < 3 by decide) (show F < 12 by omega) (show r < 6 by omega)) (sh_rp hS (show 0 < 3 by decide) (show F < 12 by omega) (show r < 6 by omega)) (rf_rp hR (show 0 < 3 by decide) (show F < 12 by omega) (show r < 6 by omega))) (d2 := d - 1) (by omega) (Nat.le_of_eq (Nat.zero_add _)) (Nat.le_of_eq (Nat.zero_add _)) ?_
    rw [show J (ru 0 F r) 1 = x from hx.symm]
    refine q_bif_ne (tgt := 28) (pc2 := 24) d_Fe_isShared_21 rfl rfl (fun c3 => ?_) (fun c3 => ?_)
    · refine r_iconst (v := nI 0) (pc2 := 29) d_Fe_isShared_28 rfl (by decide) ?_
      refine Run.ret (some (.int (nI 0))) d_Fe_isShared_29 ⟨_, rfl, by decide⟩ ?_
      first | (exfalso; omega) | exact ⟨by rw [bI_f (fun q => by omega)]; rfl, rfl⟩
    · refine r_iconst (v := nI 1) (pc2 := 25) d_Fe_isShared_24 rfl (by decide) ?_
      refine r_goto (tgt := 29) d_Fe_isShared_25 rfl ?_
      refine Run.ret (some (.int (nI 1))) d_Fe_isShared_29 ⟨_, rfl, by decide⟩ ?_
      first | (exfalso; omega) | exact ⟨by rw [bI_t (by omega)]; rfl, rfl⟩
theorem c_De_setPart_0 {d : Nat} {J : Nat → Nat → Int32} {R : Nat → Nat → Option Nat} {L : Nat → Nat → Int64} {sh : Nat → Nat × Nat} {N : Nat} (hS : ShOK sh) (hR : RfOK R) {tK tF tC tS : Nat → Int32} {nt : Nat} {G : Nat → Int32} {nP nF nS : Nat} (hW : WFA G nP nF nt) (hT : WFT G nF nS) (hD : DR tK tF tC tS J R sh nt 0 G nP nF nS) {F r k : Nat} (hF : F < nF) (hr : r ≤ 5) (hk : 1 ≤ k ∧ k ≤ 3) {v : Int32} (hv : v.toInt ≤ 333) (hd : 4 ≤ d) : Mt mi_De_setPart d 0 0 [.ref 1, .int (nI F), .int (nI r), .int (nI k), .int v] (J, R, L, sh, N) (fun x h2 => x = none ∧ ∃ K, h2 = (K, R, L, sh, N) ∧ FrE 0 J K ∧ DR tK tF tC tS K R sh nt 0 (stpP G F r k v) nP nF nS) := by
  obtain ⟨hPc, hP24, hFc, hF12, hWF, hWP⟩ := id hW
  have hS24 := hT.2.1
  refine Mt.of pn_De (Nat.le_of_ble_eq_true rfl) ?_
  show Run mi_De_setPart d 0 0 0 [(0, .ref 1), (1, .int (nI F)), (2, .int (nI r)), (3, .int (nI k)), (4, .int v)] [] (J, R, L, sh, N) _
  obtain ⟨tpF, klF, skF, fbF, nRF, nNF, nOF, frF, toF, ⟨a0F, b0F, cc0F, dd0F⟩, ⟨a1F, b1F, cc1F, dd1F⟩, ⟨a2F, b2F, cc2F, dd2F⟩, ⟨a3F, b3F, cc3F, dd3F⟩, ⟨a4F, b4F, cc4F, dd4F⟩, ⟨a5F, b5F, cc5F, dd5F⟩, ⟨a6F, b6F, cc6F, dd6F⟩, ⟨a8F, b8F, cc8F, dd8F⟩, ⟨a9F, b9F, cc9F, dd9F⟩⟩ := wfn (hWF F (by omega))
  obtain ⟨-, -, -, -, -, -, -, w7F, -, -, wNF, wRF, wKF, wOF⟩ := hWF F (by omega)
  obtain ⟨⟨x0F, x1F, x2F, x3F, x4F, x5F, x6F, x7F, x8F⟩, xnF, xoF, xkF, xcF, xrF⟩ := hD.2.2.2.1 F (by omega)
  refine r_iload_n (pc2 := 1) d_De_setPart_0 rfl rfl ?_
  refine q_if_lt (tgt := 22) (A := ((F : Nat) : Int)) (pc2 := 4) d_De_setPart_1 rfl rfl (nI_toInt (by omega)) (fun c1 => ?_) (fun c1 => ?_)
  · exfalso; omega
  refine r_iload_n (pc2 := 5) d_De_setPart_4 rfl rfl ?_
  refine r_aload_n (x := some 1) (pc2 := 6) d_De_setPart_5 rfl rfl ?_
  refine q_getI (x := nI nF) (pc2 := 9) d_De_setPart_6 rfl k_De_24 (by decide) (sh_1 hS) hD.1.2.1 ?_
  refine q_icmp_ge (tgt := 22) (A := ((F : Nat) : Int)) (B := ((nF : Nat) : Int)) (pc2 := 12) d_De_setPart_9 rfl rfl (nI_toInt (by omega)) (nI_toInt (by omega)) (fun c2 => ?_) (fun c2 => ?_)
  · refine Run.ret none d_De_setPart_22 rfl ?_
    exfalso; omega
  · refine r_iload_n (pc2 := 13) d_De_setPart_12 rfl rfl ?_
    refine r_iconst (v := nI 1) (pc2 := 14) d_De_setPart_13 rfl (by decide) ?_
    refine q_icmp_lt (tgt := 22) (A := ((k : Nat) : Int)) (B := (1 : Int)) (pc2 := 17) d_De_setPart_14 rfl rfl (nI_toInt (by omega)) (nI_toInt (by omega)) (fun c3 => ?_) (fun c3 => ?_)
    · refine Run.ret none d_De_setPart_22 rfl ?_
      exfalso; omega
    · refine r_iload_n (pc2 := 18) d_De_setPart_17 rfl rfl ?_
      refine r_iconst (v := nI 3) (pc2 := 19) d_De_setPart_18 rfl (by decide) ?_
      refine q_icmp_le (tgt := 23) (A := ((k : Nat) : Int)) (B := (3 : Int)) (pc2 := 22) d_De_setPart_19 rfl rfl (nI_toInt (by omega)) (nI_toInt (by omega)) (fun c4 => ?_) (fun c4 => ?_)
      · refine r_aload_n (x := some 1) (pc2 := 24) d_De_setPart_23 rfl rfl ?_
        refine q_getR (x := some 5) (pc2 := 27) d_De_setPart_24 rfl k_De_20 rfl (sh_1 hS) (rf_1_1 hR) ?_
        refine r_iload_n (pc2 := 28) d_De_setPart_27 rfl rfl ?_
        refine q_aaload (q := F) (x := some (fe 0 F)) (pc2 := 29) d_De_setPart_28 rfl (sh_5 hS) (by decide) (by decide) (nI_toInt (by omega)) (by omega) (rf_fe hR (show 0 < 3 by decide) (show F < 12 by omega)) ?_
        refine r_iload_n (pc2 := 30) d_De_setPart_29 rfl rfl ?_
        refine q_callv (M2 := mi_Fe_isShared) (pc2 := 33) d_De_setPart_30 rfl k_De_108 cm_Fe_isShared cv_Fe_isShared (sh_fe0 hS (show 0 < 3 by decide) (show F < 12 by omega)) (by decide) rfl rfl rfl (Nat.le_of_ble_eq_true rfl) (c_Fe_isSharedE_0 (J := J) hS hR hW hT hD (F := F) (r := r) (by omega) (by omega) (d := d - 1) (by omega)) (d2 := d - 1) (by omega) (Nat.le_of_eq (Nat.zero_add _)) (Nat.le_of_eq (Nat.zero_add _)) ?_
        refine q_bif_eq (tgt := 56) (pc2 := 36) d_De_setPart_33 rfl rfl (fun c5 => ?_) (fun c5 => ?_)
        · refine Run.ret none d_De_setPart_56 rfl ?_
          exact ⟨rfl, _, rfl, FrE.rf, by rw [stpP_n c5]; exact hD⟩
        · have hr6 : r < 6 ∧ r < nRF := by omega
          refine r_aload_n (x := some 1) (pc2 := 37) d_De_setPart_36 rfl rfl ?_
          refine q_getR (x := some 5) (pc2 := 40) d_De_setPart_37 rfl k_De_20 rfl (sh_1 hS) (rf_1_1 hR) ?_
          refine r_iload_n (pc2 := 41) d_De_setPart_40 rfl rfl ?_
          refine q_aaload (q := F) (x := some (fe 0 F)) (pc2 := 42) d_De_setPart_41 rfl (sh_5 hS) (by decide) (by decide) (nI_toInt (by omega)) (by omega) (rf_fe hR (show 0 < 3 by decide) (show F < 12 by omega)) ?_
          refine q_getR (x := some (fe 0 F + 1)) (pc2 := 45) d_De_setPart_42 rfl k_De_112 rfl (sh_fe0 hS (show 0 < 3 by decide) (show F < 12 by omega)) (rf_fe_4 hR (show 0 < 3 by decide) (show F < 12 by omega)) ?_
          refine r_iload_n (pc2 := 46) d_De_setPart_45 rfl rfl ?_
          refine q_aaload (q := r) (x := some (ru 0 F r)) (pc2 := 47) d_De_setPart_46 rfl (sh_fe1 hS (show 0 < 3 by decide) (show F < 12 by omega)) (by decide) (by decide) (nI_toInt (by omega)) (by omega) (rf_ru hR (show 0 < 3 by decide) (show F < 12 by omega) (show r < 6 by omega)) ?_
          refine q_getR (x := some (ru 0 F r + 1)) (pc2 := 50) d_De_setPart_47 rfl k_De_115 rfl (sh_ru hS (show 0 < 3 by decide) (show F < 12 by omega) (show r < 6 by omega)) (rf_rp hR (show 0 < 3 by decide) (show F < 12 by omega) (show r < 6 by omega)) ?_
          refine r_iload_n (pc2 := 51) d_De_setPart_50 rfl rfl ?_
          refine r_iconst (v := nI 1) (pc2 := 52) d_De_setPart_51 rfl (by decide) ?_
          refine q_isubN (pc2 := 53) d_De_setPart_52 rfl (by omega) ?_
          refine r_iload (pc2 := 55) d_De_setPart_53 rfl rfl ?_
          refine q_iastore (q := k - 1) (pc2 := 56) d_De_setPart_55 rfl (sh_rp hS (show 0 < 3 by decide) (show F < 12 by omega) (show r < 6 by omega)) (nI_toInt (by omega)) (by omega) (fun I6 hI6 => ?_)
          refine Run.ret none d_De_setPart_56 rfl ?_
          first | (exfalso; omega) | exact ⟨rfl, _, rfl, FrE.rf.put hI6 (by unfold ru fe dk; omega), by rw [stpP_y c5]; exact DR.fE (by decide) hW hT hF hD (fun a j q => rd_ne hI6 (by unfold ru; omega)) (fun j hj => u1_o (by omega)) (FR.part (by decide) (by omega) hP24 (hWF F hF) (by unfold nRof; rw [b4F, Int.toNat_natCast]; omega) (by omega) c5.2 hv (hD.2.2.2.1 F hF) hI6)⟩
      · refine Run.ret none d_De_setPart_22 rfl ?_
        exfalso; omega
theorem l_De_doSteps_0 {d : Nat} {R : Nat → Nat → Option Nat} {L : Nat → Nat → Int64} {sh : Nat → Nat × Nat} {N : Nat} (hS : ShOK sh) (hR : RfOK R) {tK tF tC tS : Nat → Int32} {nt : Nat} {nP nF nS0 tot : Nat} {GE : Nat → Int32} {J0 : Nat → Nat → Int32} {t : Int32} (hd : 12 ≤ d) {Q : Option Value → HS → Prop} (hq : ∀ K, FrE 0 J0 K → DR tK tF tC tS K R sh nt 0 GE nP nF (nS0 - tot) → Q (some (.int (nI tot))) (K, R, L, sh, N)) : ∀ (n_ : Nat) (k : Nat) (did : Nat) (nS : Nat) (G : Nat → Int32) (J : Nat → Nat → Int32), 24 - k = n_ → (FrE 0 J0 J) → (WFA G nP nF nt) → (WFT G nF nS) → (DR tK tF tC tS J R sh nt 0 G nP nF nS) → (did + (stI t nS G).1 = tot) → ((stI t nS G).2 = GE) → (k + nS ≤ 24) → (nS + did = nS0) → Run mi_De_doSteps d 0 0 4 [(0, .ref 1), (1, .int t), (2, .int (nI did)), (3, .int (nI k))] [] (J, R, L, sh, N) Q := by
  intro n_
  induction n_ using Nat.strongRecOn with | ind n_ ih_ => ?_
  intro k did nS G J hn_ v0_ v1_ v2_ v3_ v4_ v5_ v6_ v7_
  have hW := v1_
  have hT := v2_
  have hD := v3_
  obtain ⟨hPc, hP24, hFc, hF12, hWF, hWP⟩ := id hW
  have hS24 := hT.2.1
  refine r_iload_n (pc2 := 5) d_De_doSteps_4 rfl rfl ?_
  refine r_bipush (v := nI 24) (pc2 := 7) d_De_doSteps_5 rfl (by decide) ?_
  refine q_icmp_ge (tgt := 91) (A := ((k : Nat) : Int)) (B := (24 : Int)) (pc2 := 10) d_De_doSteps_7 rfl rfl (nI_toInt (by omega)) (nI_toInt (by omega)) (fun c1 => ?_) (fun c1 => ?_)
  · refine r_iload_n (pc2 := 92) d_De_doSteps_91 rfl rfl ?_
    refine Run.ret (some (.int (nI did))) d_De_doSteps_92 ⟨_, rfl⟩ ?_
    have hst : stI t nS G = (0, G) := by rw [show nS = 0 by omega]; rfl
    rw [hst] at v4_ v5_; dsimp only at v4_ v5_; subst v5_; rw [show did = tot by omega]; exact hq _ v0_ (by rw [show nS0 - tot = nS by omega]; exact hD)
  · refine r_aload_n (x := some 1) (pc2 := 11) d_De_doSteps_10 rfl rfl ?_
    refine q_getR (x := some 6) (pc2 := 14) d_De_doSteps_11 rfl k_De_31 rfl (sh_1 hS) (rf_1_3 hR) ?_
    refine r_iload_n (pc2 := 15) d_De_doSteps_14 rfl rfl ?_
    refine q_callv (M2 := mi_St_firstTill) (pc2 := 18) d_De_doSteps_15 rfl k_De_89 cm_St_firstTill cv_St_firstTill (sh_6 hS) (by decide) rfl rfl rfl (Nat.le_of_ble_eq_true rfl) (c_St_firstTill_0 (J := J) hS hR (by omega) hD (t := t)) (d2 := d - 1) (by omega) (Nat.le_of_eq (Nat.zero_add _)) (Nat.le_of_eq (Nat.zero_add _)) ?_
    cases hob : bestI G t nS with
    | none =>
      refine r_istore (pc2 := 20) d_De_doSteps_18 rfl (Nat.le_of_ble_eq_true rfl) ?_
      refine r_iload (pc2 := 22) d_De_doSteps_20 rfl rfl ?_
      refine r_iconst (v := (-1 : Int32)) (pc2 := 23) d_De_doSteps_22 rfl (by decide) ?_
      refine q_icmp_ne (tgt := 29) (A := (-1 : Int)) (B := (-1 : Int)) (pc2 := 26) d_De_doSteps_23 rfl rfl (by decide) (by decide) (fun c2 => ?_) (fun c2 => ?_)
      · exfalso; omega
      refine r_goto (tgt := 91) d_De_doSteps_26 rfl ?_
      refine r_iload_n (pc2 := 92) d_De_doSteps_91 rfl rfl ?_
      refine Run.ret (some (.int (nI did))) d_De_doSteps_92 ⟨_, rfl⟩ ?_
      have hst : stI t nS G = (0, G) := by
        cases nS with
        | zero => rfl
        | succ n => rw [show stI t (n + 1) G = (match bestI G t (n + 1) with | none => (0, G) | some b => ((stI t n (stp1 G b)).1 + 1, (stI t n (stp1 G b)).2)) from rfl, hob]
      rw [hst] at v4_ v5_; dsimp only at v4_ v5_; subst v5_; rw [show did = tot by omega]; exact hq _ v0_ (by rw [show nS0 - tot = nS by omega]; exact hD)
    | some b =>
      have hbl := bestI_lt hob
      refine r_istore (pc2 := 20) d_De_doSteps_18 rfl (Nat.le_of_ble_eq_true rfl) ?_
      refine r_iload (pc2 := 22) d_De_doSteps_20 rfl rfl ?_
      refine r_iconst (v := (-1 : Int32)) (pc2 := 23) d_De_doSteps_22 rfl (by decide) ?_
      refine q_icmp_ne (tgt := 29) (A := ((b : Nat) : Int)) (B := (-1 : Int)) (pc2 := 26) d_De_doSteps_23 rfl rfl (nI_toInt (by omega)) (by decide) (fun c3 => ?_) (fun c3 => ?_)
      rotate_left
      · exfalso; omega
      obtain ⟨n, rfl⟩ : ∃ n, nS = n + 1 := ⟨nS - 1, by omega⟩
      obtain ⟨tt, ff, rr, kk, qq, -, ⟨f1, f2, f3⟩, ⟨r1, r2, r3⟩, ⟨k1, k2, k3, k4⟩, ⟨q1, q2, q3⟩⟩ := wsn hT hbl
      have hds := hD.2.2.1 b hbl
      refine r_aload_n (x := some 1) (pc2 := 30) d_De_doSteps_29 rfl rfl ?_
      refine r_aload_n (x := some 1) (pc2 := 31) d_De_doSteps_30 rfl rfl ?_
      refine q_getR (x := some 6) (pc2 := 34) d_De_doSteps_31 rfl k_De_31 rfl (sh_1 hS) (rf_1_3 hR) ?_
      refine q_getR (x := some 8) (pc2 := 37) d_De_doSteps_34 rfl k_De_92 rfl (sh_6 hS) (rf_6_1 hR) ?_
      refine r_iload (pc2 := 39) d_De_doSteps_37 rfl rfl ?_
      refine q_iaload (q := b) (x := nI ff) (pc2 := 40) d_De_doSteps_39 rfl (sh_8 hS) (nI_toInt (by omega)) (by omega) (hds.2.1.trans f1) ?_
      refine r_aload_n (x := some 1) (pc2 := 41) d_De_doSteps_40 rfl rfl ?_
      refine q_getR (x := some 6) (pc2 := 44) d_De_doSteps_41 rfl k_De_31 rfl (sh_1 hS) (rf_1_3 hR) ?_
      refine q_getR (x := some 9) (pc2 := 47) d_De_doSteps_44 rfl k_De_94 rfl (sh_6 hS) (rf_6_2 hR) ?_
      refine r_iload (pc2 := 49) d_De_doSteps_47 rfl rfl ?_
      refine q_iaload (q := b) (x := nI rr) (pc2 := 50) d_De_doSteps_49 rfl (sh_9 hS) (nI_toInt (by omega)) (by omega) (hds.2.2.1.trans r1) ?_
      refine r_aload_n (x := some 1) (pc2 := 51) d_De_doSteps_50 rfl rfl ?_
      refine q_getR (x := some 6) (pc2 := 54) d_De_doSteps_51 rfl k_De_31 rfl (sh_1 hS) (rf_1_3 hR) ?_
      refine q_getR (x := some 10) (pc2 := 57) d_De_doSteps_54 rfl k_De_97 rfl (sh_6 hS) (rf_6_3 hR) ?_
      refine r_iload (pc2 := 59) d_De_doSteps_57 rfl rfl ?_
      refine q_iaload (q := b) (x := nI kk) (pc2 := 60) d_De_doSteps_59 rfl (sh_10 hS) (nI_toInt (by omega)) (by omega) (hds.2.2.2.1.trans k1) ?_
      refine r_aload_n (x := some 1) (pc2 := 61) d_De_doSteps_60 rfl rfl ?_
      refine q_getR (x := some 6) (pc2 := 64) d_De_doSteps_61 rfl k_De_31 rfl (sh_1 hS) (rf_1_3 hR) ?_
      refine q_getR (x := some 11) (pc2 := 67) d_De_doSteps_64 rfl k_De_100 rfl (sh_6 hS) (rf_6_4 hR) ?_
      refine r_iload (pc2 := 69) d_De_doSteps_67 rfl rfl ?_
      refine q_iaload (q := b) (x := nI qq) (pc2 := 70) d_De_doSteps_69 rfl (sh_11 hS) (nI_toInt (by omega)) (by omega) (hds.2.2.2.2.trans q1) ?_
      refine r_callv (M2 := mi_De_setPart) (pc2 := 73) d_De_doSteps_70 rfl k_De_103 cm_De_setPart cv_De_setPart (sh_1 hS) (by decide) rfl rfl rfl (Nat.le_of_ble_eq_true rfl) (c_De_setPart_0 (J := J) hS hR hW hT hD (F := ff) (r := rr) (k := kk) f3 r3 ⟨k3, k4⟩ (v := nI qq) (by rw [nI_toInt (by omega)]; omega) (d := d - 1) (by omega)) (d2 := d - 1) (by omega) (Nat.le_of_eq (Nat.zero_add _)) (Nat.le_of_eq (Nat.zero_add _)) (fun r2 h2 hq2 => ?_)
      obtain ⟨rfl, K4, rfl, hfK4, hdK4⟩ := hq2
      change Run _ _ _ _ _ _ [] _ _
      refine r_aload_n (x := some 1) (pc2 := 74) d_De_doSteps_73 rfl rfl ?_
      refine q_getR (x := some 6) (pc2 := 77) d_De_doSteps_74 rfl k_De_31 rfl (sh_1 hS) (rf_1_3 hR) ?_
      refine r_iload (pc2 := 79) d_De_doSteps_77 rfl rfl ?_
      refine r_callv (M2 := mi_St_remove) (pc2 := 82) d_De_doSteps_79 rfl k_De_107 cm_St_remove cv_St_remove (sh_6 hS) (by decide) rfl rfl rfl (Nat.le_of_ble_eq_true rfl) (c_St_remove_0 (J := K4) hS hR (nS := n + 1) hdK4.1.2.2.2.2.2 (by omega) (p := b) (by omega) (d := d - 1) (by omega)) (d2 := d - 1) (by omega) (Nat.le_of_eq (Nat.zero_add _)) (Nat.le_of_eq (Nat.zero_add _)) (fun r2 h2 hq2 => ?_)
      obtain ⟨rfl, K5, rfl, hK5⟩ := hq2
      change Run _ _ _ _ _ _ [] _ _
      have hw1 := stpP_W (v := nI qq) (k := kk) (r := rr) hW f3 ⟨k3, k4⟩ (by rw [nI_toInt (by omega)]; omega) r3
      have hu := DR.unstep (by decide) hw1 (by omega) hbl hdK4 hK5
      have hs1 : shf (u1 (stpP G ff rr kk (nI qq)) 2 (nI (n + 1 - 1))) (54 + 5 * b) (54 + 5 * (n + 1 - 1)) 5 = stp1 G b := by unfold stp1; rw [hT.1, nI_toInt (by omega), f2, r2, k2, q1]; simp only [Int.toNat_natCast]
      rw [hs1] at hu
      have hst : stI t (n + 1) G = ((stI t n (stp1 G b)).1 + 1, (stI t n (stp1 G b)).2) := by rw [show stI t (n + 1) G = (match bestI G t (n + 1) with | none => (0, G) | some b => ((stI t n (stp1 G b)).1 + 1, (stI t n (stp1 G b)).2)) from rfl, hob]
      rw [hst] at v4_ v5_
      have hfk : FrE 0 K4 K5 := fun a j q => by rw [rd_ne hK5 (by unfold dk at q; omega), st5_o (by unfold dk at q; omega)]
      refine q_iinc (b := 1) (pc2 := 85) d_De_doSteps_82 rfl rfl (by decide) (Nat.le_of_ble_eq_true rfl) ?_
      refine q_iinc (b := 1) (pc2 := 88) d_De_doSteps_85 rfl rfl (by decide) (Nat.le_of_ble_eq_true rfl) ?_
      refine r_goto (tgt := 4) d_De_doSteps_88 rfl ?_
      refine Run.sub (l2 := [(0, .ref 1), (1, .int t), (2, .int (nI (did + 1))), (3, .int (nI (k + 1)))]) ⟨rfl, rfl, rfl, rfl, trivial⟩ ?_
      exact ih_ (24 - (k + 1)) (by omega) (k + 1) (did + 1) n (stp1 G b) K5 rfl ((v0_.tr hfK4).tr hfk) (stp1_W hW hT hbl) (stp1_T hT hbl) (hu) (by dsimp only at v4_; omega) (by dsimp only at v5_; exact v5_) (by omega) (by omega)
theorem c_De_doSteps_0 {d : Nat} {J : Nat → Nat → Int32} {R : Nat → Nat → Option Nat} {L : Nat → Nat → Int64} {sh : Nat → Nat × Nat} {N : Nat} (hS : ShOK sh) (hR : RfOK R) {tK tF tC tS : Nat → Int32} {nt : Nat} {G : Nat → Int32} {nP nF nS : Nat} (hW : WFA G nP nF nt) (hT : WFT G nF nS) (hD : DR tK tF tC tS J R sh nt 0 G nP nF nS) {t : Int32} (hd : 12 ≤ d) : Mt mi_De_doSteps d 0 0 [.ref 1, .int t] (J, R, L, sh, N) (fun x h2 => ∃ K, h2 = (K, R, L, sh, N) ∧ x = some (.int (nI (stI t nS G).1)) ∧ FrE 0 J K ∧ DR tK tF tC tS K R sh nt 0 (stI t nS G).2 nP nF (nS - (stI t nS G).1)) := by
  obtain ⟨hPc, hP24, hFc, hF12, hWF, hWP⟩ := id hW
  have hS24 := hT.2.1
  refine Mt.of pn_De (Nat.le_of_ble_eq_true rfl) ?_
  show Run mi_De_doSteps d 0 0 0 [(0, .ref 1), (1, .int t)] [] (J, R, L, sh, N) _
  refine r_iconst (v := nI 0) (pc2 := 1) d_De_doSteps_0 rfl (by decide) ?_
  refine r_istore_n (pc2 := 2) d_De_doSteps_1 rfl rfl (Nat.le_of_ble_eq_true rfl) ?_
  refine r_iconst (v := nI 0) (pc2 := 3) d_De_doSteps_2 rfl (by decide) ?_
  refine r_istore_n (pc2 := 4) d_De_doSteps_3 rfl rfl (Nat.le_of_ble_eq_true rfl) ?_
  refine Run.sub (l2 := [(0, .ref 1), (1, .int t), (2, .int (nI 0)), (3, .int (nI 0))]) ⟨rfl, rfl, rfl, rfl, trivial⟩ ?_
  exact l_De_doSteps_0 hS hR (nS0 := nS) hd (fun K h1 h2 => ⟨K, rfl, rfl, h1, h2⟩) _ 0 0 nS G J rfl FrE.rf hW hT hD (Nat.zero_add _) rfl (by omega) (Nat.add_zero _)
theorem c_Fe_isSharedE_2 {d : Nat} {J : Nat → Nat → Int32} {R : Nat → Nat → Option Nat} {L : Nat → Nat → Int64} {sh : Nat → Nat × Nat} {N : Nat} (hS : ShOK sh) (hR : RfOK R) {tK tF tC tS : Nat → Int32} {nt : Nat} {G : Nat → Int32} {nP nF nS : Nat} (hW : WFA G nP nF nt) (hT : WFT G nF nS) (hD : DR tK tF tC tS J R sh nt 2 G nP nF nS) {F r : Nat} (hF : F < nF) (hr : r ≤ 5) (hd : 1 ≤ d) : Me mi_Fe_isShared d 0 0 [.ref (fe 2 F), .int (nI r)] (J, R, L, sh, N) (some (.int (bI ((r : Int) < (G (174 + 84 * F + 4)).toInt ∧ ¬ 1000 ≤ (G (174 + 84 * F + 60 + 4 * r + 1)).toInt)))) (J, R, L, sh, N) := by
  obtain ⟨hPc, hP24, hFc, hF12, hWF, hWP⟩ := id hW
  have hS24 := hT.2.1
  refine Mt.of pn_Fe (Nat.le_of_ble_eq_true rfl) ?_
  show Run mi_Fe_isShared d 0 0 0 [(0, .ref (fe 2 F)), (1, .int (nI r))] [] (J, R, L, sh, N) _
  obtain ⟨tpF, klF, skF, fbF, nRF, nNF, nOF, frF, toF, ⟨a0F, b0F, cc0F, dd0F⟩, ⟨a1F, b1F, cc1F, dd1F⟩, ⟨a2F, b2F, cc2F, dd2F⟩, ⟨a3F, b3F, cc3F, dd3F⟩, ⟨a4F, b4F, cc4F, dd4F⟩, ⟨a5F, b5F, cc5F, dd5F⟩, ⟨a6F, b6F, cc6F, dd6F⟩, ⟨a8F, b8F, cc8F, dd8F⟩, ⟨a9F, b9F, cc9F, dd9F⟩⟩ := wfn (hWF F (by omega))
  obtain ⟨-, -, -, -, -, -, -, w7F, -, -, wNF, wRF, wKF, wOF⟩ := hWF F (by omega)
  obtain ⟨⟨x0F, x1F, x2F, x3F, x4F, x5F, x6F, x7F, x8F⟩, xnF, xoF, xkF, xcF, xrF⟩ := hD.2.2.2.1 F (by omega)
  refine r_iload_n (pc2 := 1) d_Fe_isShared_0 rfl rfl ?_
  refine q_if_lt (tgt := 28) (A := ((r : Nat) : Int)) (pc2 := 4) d_Fe_isShared_1 rfl rfl (nI_toInt (by omega)) (fun c1 => ?_) (fun c1 => ?_)
  · exfalso; omega
  refine r_iload_n (pc2 := 5) d_Fe_isShared_4 rfl rfl ?_
  refine r_aload_n (x := some (fe 2 F)) (pc2 := 6) d_Fe_isShared_5 rfl rfl ?_
  refine q_getI (x := nI nRF) (pc2 := 9) d_Fe_isShared_6 rfl k_Fe_30 (by decide) (sh_fe0 hS (show 2 < 3 by decide) (show F < 12 by omega)) (x4F.trans a4F) ?_
  refine q_icmp_ge (tgt := 28) (A := ((r : Nat) : Int)) (B := ((nRF : Nat) : Int)) (pc2 := 12) d_Fe_isShared_9 rfl rfl (nI_toInt (by omega)) (nI_toInt (by omega)) (fun c2 => ?_) (fun c2 => ?_)
  · refine r_iconst (v := nI 0) (pc2 := 29) d_Fe_isShared_28 rfl (by decide) ?_
    refine Run.ret (some (.int (nI 0))) d_Fe_isShared_29 ⟨_, rfl, by decide⟩ ?_
    first | (exfalso; omega) | exact ⟨by rw [bI_f (fun q => by omega)]; rfl, rfl⟩
  · have hrn : r < nRof G F := by unfold nRof; rw [b4F, Int.toNat_natCast]; omega
    have hrr := xrF r hrn
    have hsh := hrr.shared (by have := wRF r (by omega); omega)
    obtain ⟨x, hx⟩ : ∃ x, x = J (ru 2 F r) 1 := ⟨_, rfl⟩
    rw [← hx] at hsh
    refine r_aload_n (x := some (fe 2 F)) (pc2 := 13) d_Fe_isShared_12 rfl rfl ?_
    refine q_getR (x := some (fe 2 F + 1)) (pc2 := 16) d_Fe_isShared_13 rfl k_Fe_26 rfl (sh_fe0 hS (show 2 < 3 by decide) (show F < 12 by omega)) (rf_fe_4 hR (show 2 < 3 by decide) (show F < 12 by omega)) ?_
    refine r_iload_n (pc2 := 17) d_Fe_isShared_16 rfl rfl ?_
    refine q_aaload (q := r) (x := some (ru 2 F r)) (pc2 := 18) d_Fe_isShared_17 rfl (sh_fe1 hS (show 2 < 3 by decide) (show F < 12 by omega)) (by decide) (by decide) (nI_toInt (by omega)) (by omega) (rf_ru hR (show 2 < 3 by decide) (show F < 12 by omega) (show r < 6 by omega)) ?_
    refine q_callv (M2 := mi_Ru_isFixed) (pc2 := 21) d_Fe_isShared_18 rfl k_Fe_95 cm_Ru_isFixed cv_Ru_isFixed (sh_ru hS (show 2 < 3 by decide) (show F < 12 by omega) (show r < 6 by omega)) (by decide) rfl rfl rfl (Nat.le_of_ble_eq_true rfl) (c_Ru_isFixed (J := J) (q := ru 2 F r) (sh_ru hS (show 2 < 3 by decide) (show F < 12 by omega) (show r < 6 by omega)) (sh_rp hS (show 2 < 3 by decide) (show F < 12 by omega) (show r < 6 by omega)) (rf_rp hR (show 2 < 3 by decide) (show F < 12 by omega) (show r < 6 by omega))) (d2 := d - 1) (by omega) (Nat.le_of_eq (Nat.zero_add _)) (Nat.le_of_eq (Nat.zero_add _)) ?_
    rw [show J (ru 2 F r) 1 = x from hx.symm]
    refine q_bif_ne (tgt := 28) (pc2 := 24) d_Fe_isShared_21 rfl rfl (fun c3 => ?_) (fun c3 => ?_)
    · refine r_iconst (v := nI 0) (pc2 := 29) d_Fe_isShared_28 rfl (by decide) ?_
      refine Run.ret (some (.int (nI 0))) d_Fe_isShared_29 ⟨_, rfl, by decide⟩ ?_
      first | (exfalso; omega) | exact ⟨by rw [bI_f (fun q => by omega)]; rfl, rfl⟩
    · refine r_iconst (v := nI 1) (pc2 := 25) d_Fe_isShared_24 rfl (by decide) ?_
      refine r_goto (tgt := 29) d_Fe_isShared_25 rfl ?_
      refine Run.ret (some (.int (nI 1))) d_Fe_isShared_29 ⟨_, rfl, by decide⟩ ?_
      first | (exfalso; omega) | exact ⟨by rw [bI_t (by omega)]; rfl, rfl⟩
theorem c_De_setPart_2 {d : Nat} {J : Nat → Nat → Int32} {R : Nat → Nat → Option Nat} {L : Nat → Nat → Int64} {sh : Nat → Nat × Nat} {N : Nat} (hS : ShOK sh) (hR : RfOK R) {tK tF tC tS : Nat → Int32} {nt : Nat} {G : Nat → Int32} {nP nF nS : Nat} (hW : WFA G nP nF nt) (hT : WFT G nF nS) (hD : DR tK tF tC tS J R sh nt 2 G nP nF nS) {F r k : Nat} (hF : F < nF) (hr : r ≤ 5) (hk : 1 ≤ k ∧ k ≤ 3) {v : Int32} (hv : v.toInt ≤ 333) (hd : 4 ≤ d) : Mt mi_De_setPart d 0 0 [.ref 479, .int (nI F), .int (nI r), .int (nI k), .int v] (J, R, L, sh, N) (fun x h2 => x = none ∧ ∃ K, h2 = (K, R, L, sh, N) ∧ FrE 2 J K ∧ DR tK tF tC tS K R sh nt 2 (stpP G F r k v) nP nF nS) := by
  obtain ⟨hPc, hP24, hFc, hF12, hWF, hWP⟩ := id hW
  have hS24 := hT.2.1
  refine Mt.of pn_De (Nat.le_of_ble_eq_true rfl) ?_
  show Run mi_De_setPart d 0 0 0 [(0, .ref 479), (1, .int (nI F)), (2, .int (nI r)), (3, .int (nI k)), (4, .int v)] [] (J, R, L, sh, N) _
  obtain ⟨tpF, klF, skF, fbF, nRF, nNF, nOF, frF, toF, ⟨a0F, b0F, cc0F, dd0F⟩, ⟨a1F, b1F, cc1F, dd1F⟩, ⟨a2F, b2F, cc2F, dd2F⟩, ⟨a3F, b3F, cc3F, dd3F⟩, ⟨a4F, b4F, cc4F, dd4F⟩, ⟨a5F, b5F, cc5F, dd5F⟩, ⟨a6F, b6F, cc6F, dd6F⟩, ⟨a8F, b8F, cc8F, dd8F⟩, ⟨a9F, b9F, cc9F, dd9F⟩⟩ := wfn (hWF F (by omega))
  obtain ⟨-, -, -, -, -, -, -, w7F, -, -, wNF, wRF, wKF, wOF⟩ := hWF F (by omega)
  obtain ⟨⟨x0F, x1F, x2F, x3F, x4F, x5F, x6F, x7F, x8F⟩, xnF, xoF, xkF, xcF, xrF⟩ := hD.2.2.2.1 F (by omega)
  refine r_iload_n (pc2 := 1) d_De_setPart_0 rfl rfl ?_
  refine q_if_lt (tgt := 22) (A := ((F : Nat) : Int)) (pc2 := 4) d_De_setPart_1 rfl rfl (nI_toInt (by omega)) (fun c1 => ?_) (fun c1 => ?_)
  · exfalso; omega
  refine r_iload_n (pc2 := 5) d_De_setPart_4 rfl rfl ?_
  refine r_aload_n (x := some 479) (pc2 := 6) d_De_setPart_5 rfl rfl ?_
  refine q_getI (x := nI nF) (pc2 := 9) d_De_setPart_6 rfl k_De_24 (by decide) (sh_479 hS) hD.1.2.1 ?_
  refine q_icmp_ge (tgt := 22) (A := ((F : Nat) : Int)) (B := ((nF : Nat) : Int)) (pc2 := 12) d_De_setPart_9 rfl rfl (nI_toInt (by omega)) (nI_toInt (by omega)) (fun c2 => ?_) (fun c2 => ?_)
  · refine Run.ret none d_De_setPart_22 rfl ?_
    exfalso; omega
  · refine r_iload_n (pc2 := 13) d_De_setPart_12 rfl rfl ?_
    refine r_iconst (v := nI 1) (pc2 := 14) d_De_setPart_13 rfl (by decide) ?_
    refine q_icmp_lt (tgt := 22) (A := ((k : Nat) : Int)) (B := (1 : Int)) (pc2 := 17) d_De_setPart_14 rfl rfl (nI_toInt (by omega)) (nI_toInt (by omega)) (fun c3 => ?_) (fun c3 => ?_)
    · refine Run.ret none d_De_setPart_22 rfl ?_
      exfalso; omega
    · refine r_iload_n (pc2 := 18) d_De_setPart_17 rfl rfl ?_
      refine r_iconst (v := nI 3) (pc2 := 19) d_De_setPart_18 rfl (by decide) ?_
      refine q_icmp_le (tgt := 23) (A := ((k : Nat) : Int)) (B := (3 : Int)) (pc2 := 22) d_De_setPart_19 rfl rfl (nI_toInt (by omega)) (nI_toInt (by omega)) (fun c4 => ?_) (fun c4 => ?_)
      · refine r_aload_n (x := some 479) (pc2 := 24) d_De_setPart_23 rfl rfl ?_
        refine q_getR (x := some 483) (pc2 := 27) d_De_setPart_24 rfl k_De_20 rfl (sh_479 hS) (rf_479_1 hR) ?_
        refine r_iload_n (pc2 := 28) d_De_setPart_27 rfl rfl ?_
        refine q_aaload (q := F) (x := some (fe 2 F)) (pc2 := 29) d_De_setPart_28 rfl (sh_483 hS) (by decide) (by decide) (nI_toInt (by omega)) (by omega) (rf_fe hR (show 2 < 3 by decide) (show F < 12 by omega)) ?_
        refine r_iload_n (pc2 := 30) d_De_setPart_29 rfl rfl ?_
        refine q_callv (M2 := mi_Fe_isShared) (pc2 := 33) d_De_setPart_30 rfl k_De_108 cm_Fe_isShared cv_Fe_isShared (sh_fe0 hS (show 2 < 3 by decide) (show F < 12 by omega)) (by decide) rfl rfl rfl (Nat.le_of_ble_eq_true rfl) (c_Fe_isSharedE_2 (J := J) hS hR hW hT hD (F := F) (r := r) (by omega) (by omega) (d := d - 1) (by omega)) (d2 := d - 1) (by omega) (Nat.le_of_eq (Nat.zero_add _)) (Nat.le_of_eq (Nat.zero_add _)) ?_
        refine q_bif_eq (tgt := 56) (pc2 := 36) d_De_setPart_33 rfl rfl (fun c5 => ?_) (fun c5 => ?_)
        · refine Run.ret none d_De_setPart_56 rfl ?_
          exact ⟨rfl, _, rfl, FrE.rf, by rw [stpP_n c5]; exact hD⟩
        · have hr6 : r < 6 ∧ r < nRF := by omega
          refine r_aload_n (x := some 479) (pc2 := 37) d_De_setPart_36 rfl rfl ?_
          refine q_getR (x := some 483) (pc2 := 40) d_De_setPart_37 rfl k_De_20 rfl (sh_479 hS) (rf_479_1 hR) ?_
          refine r_iload_n (pc2 := 41) d_De_setPart_40 rfl rfl ?_
          refine q_aaload (q := F) (x := some (fe 2 F)) (pc2 := 42) d_De_setPart_41 rfl (sh_483 hS) (by decide) (by decide) (nI_toInt (by omega)) (by omega) (rf_fe hR (show 2 < 3 by decide) (show F < 12 by omega)) ?_
          refine q_getR (x := some (fe 2 F + 1)) (pc2 := 45) d_De_setPart_42 rfl k_De_112 rfl (sh_fe0 hS (show 2 < 3 by decide) (show F < 12 by omega)) (rf_fe_4 hR (show 2 < 3 by decide) (show F < 12 by omega)) ?_
          refine r_iload_n (pc2 := 46) d_De_setPart_45 rfl rfl ?_
          refine q_aaload (q := r) (x := some (ru 2 F r)) (pc2 := 47) d_De_setPart_46 rfl (sh_fe1 hS (show 2 < 3 by decide) (show F < 12 by omega)) (by decide) (by decide) (nI_toInt (by omega)) (by omega) (rf_ru hR (show 2 < 3 by decide) (show F < 12 by omega) (show r < 6 by omega)) ?_
          refine q_getR (x := some (ru 2 F r + 1)) (pc2 := 50) d_De_setPart_47 rfl k_De_115 rfl (sh_ru hS (show 2 < 3 by decide) (show F < 12 by omega) (show r < 6 by omega)) (rf_rp hR (show 2 < 3 by decide) (show F < 12 by omega) (show r < 6 by omega)) ?_
          refine r_iload_n (pc2 := 51) d_De_setPart_50 rfl rfl ?_
          refine r_iconst (v := nI 1) (pc2 := 52) d_De_setPart_51 rfl (by decide) ?_
          refine q_isubN (pc2 := 53) d_De_setPart_52 rfl (by omega) ?_
          refine r_iload (pc2 := 55) d_De_setPart_53 rfl rfl ?_
          refine q_iastore (q := k - 1) (pc2 := 56) d_De_setPart_55 rfl (sh_rp hS (show 2 < 3 by decide) (show F < 12 by omega) (show r < 6 by omega)) (nI_toInt (by omega)) (by omega) (fun I6 hI6 => ?_)
          refine Run.ret none d_De_setPart_56 rfl ?_
          first | (exfalso; omega) | exact ⟨rfl, _, rfl, FrE.rf.put hI6 (by unfold ru fe dk; omega), by rw [stpP_y c5]; exact DR.fE (by decide) hW hT hF hD (fun a j q => rd_ne hI6 (by unfold ru; omega)) (fun j hj => u1_o (by omega)) (FR.part (by decide) (by omega) hP24 (hWF F hF) (by unfold nRof; rw [b4F, Int.toNat_natCast]; omega) (by omega) c5.2 hv (hD.2.2.2.1 F hF) hI6)⟩
      · refine Run.ret none d_De_setPart_22 rfl ?_
        exfalso; omega
theorem l_De_doSteps_2 {d : Nat} {R : Nat → Nat → Option Nat} {L : Nat → Nat → Int64} {sh : Nat → Nat × Nat} {N : Nat} (hS : ShOK sh) (hR : RfOK R) {tK tF tC tS : Nat → Int32} {nt : Nat} {nP nF nS0 tot : Nat} {GE : Nat → Int32} {J0 : Nat → Nat → Int32} {t : Int32} (hd : 12 ≤ d) {Q : Option Value → HS → Prop} (hq : ∀ K, FrE 2 J0 K → DR tK tF tC tS K R sh nt 2 GE nP nF (nS0 - tot) → Q (some (.int (nI tot))) (K, R, L, sh, N)) : ∀ (n_ : Nat) (k : Nat) (did : Nat) (nS : Nat) (G : Nat → Int32) (J : Nat → Nat → Int32), 24 - k = n_ → (FrE 2 J0 J) → (WFA G nP nF nt) → (WFT G nF nS) → (DR tK tF tC tS J R sh nt 2 G nP nF nS) → (did + (stI t nS G).1 = tot) → ((stI t nS G).2 = GE) → (k + nS ≤ 24) → (nS + did = nS0) → Run mi_De_doSteps d 0 0 4 [(0, .ref 479), (1, .int t), (2, .int (nI did)), (3, .int (nI k))] [] (J, R, L, sh, N) Q := by
  intro n_
  induction n_ using Nat.strongRecOn with | ind n_ ih_ => ?_
  intro k did nS G J hn_ v0_ v1_ v2_ v3_ v4_ v5_ v6_ v7_
  have hW := v1_
  have hT := v2_
  have hD := v3_
  obtain ⟨hPc, hP24, hFc, hF12, hWF, hWP⟩ := id hW
  have hS24 := hT.2.1
  refine r_iload_n (pc2 := 5) d_De_doSteps_4 rfl rfl ?_
  refine r_bipush (v := nI 24) (pc2 := 7) d_De_doSteps_5 rfl (by decide) ?_
  refine q_icmp_ge (tgt := 91) (A := ((k : Nat) : Int)) (B := (24 : Int)) (pc2 := 10) d_De_doSteps_7 rfl rfl (nI_toInt (by omega)) (nI_toInt (by omega)) (fun c1 => ?_) (fun c1 => ?_)
  · refine r_iload_n (pc2 := 92) d_De_doSteps_91 rfl rfl ?_
    refine Run.ret (some (.int (nI did))) d_De_doSteps_92 ⟨_, rfl⟩ ?_
    have hst : stI t nS G = (0, G) := by rw [show nS = 0 by omega]; rfl
    rw [hst] at v4_ v5_; dsimp only at v4_ v5_; subst v5_; rw [show did = tot by omega]; exact hq _ v0_ (by rw [show nS0 - tot = nS by omega]; exact hD)
  · refine r_aload_n (x := some 479) (pc2 := 11) d_De_doSteps_10 rfl rfl ?_
    refine q_getR (x := some 484) (pc2 := 14) d_De_doSteps_11 rfl k_De_31 rfl (sh_479 hS) (rf_479_3 hR) ?_
    refine r_iload_n (pc2 := 15) d_De_doSteps_14 rfl rfl ?_
    refine q_callv (M2 := mi_St_firstTill) (pc2 := 18) d_De_doSteps_15 rfl k_De_89 cm_St_firstTill cv_St_firstTill (sh_484 hS) (by decide) rfl rfl rfl (Nat.le_of_ble_eq_true rfl) (c_St_firstTill_2 (J := J) hS hR (by omega) hD (t := t)) (d2 := d - 1) (by omega) (Nat.le_of_eq (Nat.zero_add _)) (Nat.le_of_eq (Nat.zero_add _)) ?_
    cases hob : bestI G t nS with
    | none =>
      refine r_istore (pc2 := 20) d_De_doSteps_18 rfl (Nat.le_of_ble_eq_true rfl) ?_
      refine r_iload (pc2 := 22) d_De_doSteps_20 rfl rfl ?_
      refine r_iconst (v := (-1 : Int32)) (pc2 := 23) d_De_doSteps_22 rfl (by decide) ?_
      refine q_icmp_ne (tgt := 29) (A := (-1 : Int)) (B := (-1 : Int)) (pc2 := 26) d_De_doSteps_23 rfl rfl (by decide) (by decide) (fun c2 => ?_) (fun c2 => ?_)
      · exfalso; omega
      refine r_goto (tgt := 91) d_De_doSteps_26 rfl ?_
      refine r_iload_n (pc2 := 92) d_De_doSteps_91 rfl rfl ?_
      refine Run.ret (some (.int (nI did))) d_De_doSteps_92 ⟨_, rfl⟩ ?_
      have hst : stI t nS G = (0, G) := by
        cases nS with
        | zero => rfl
        | succ n => rw [show stI t (n + 1) G = (match bestI G t (n + 1) with | none => (0, G) | some b => ((stI t n (stp1 G b)).1 + 1, (stI t n (stp1 G b)).2)) from rfl, hob]
      rw [hst] at v4_ v5_; dsimp only at v4_ v5_; subst v5_; rw [show did = tot by omega]; exact hq _ v0_ (by rw [show nS0 - tot = nS by omega]; exact hD)
    | some b =>
      have hbl := bestI_lt hob
      refine r_istore (pc2 := 20) d_De_doSteps_18 rfl (Nat.le_of_ble_eq_true rfl) ?_
      refine r_iload (pc2 := 22) d_De_doSteps_20 rfl rfl ?_
      refine r_iconst (v := (-1 : Int32)) (pc2 := 23) d_De_doSteps_22 rfl (by decide) ?_
      refine q_icmp_ne (tgt := 29) (A := ((b : Nat) : Int)) (B := (-1 : Int)) (pc2 := 26) d_De_doSteps_23 rfl rfl (nI_toInt (by omega)) (by decide) (fun c3 => ?_) (fun c3 => ?_)
      rotate_left
      · exfalso; omega
      obtain ⟨n, rfl⟩ : ∃ n, nS = n + 1 := ⟨nS - 1, by omega⟩
      obtain ⟨tt, ff, rr, kk, qq, -, ⟨f1, f2, f3⟩, ⟨r1, r2, r3⟩, ⟨k1, k2, k3, k4⟩, ⟨q1, q2, q3⟩⟩ := wsn hT hbl
      have hds := hD.2.2.1 b hbl
      refine r_aload_n (x := some 479) (pc2 := 30) d_De_doSteps_29 rfl rfl ?_
      refine r_aload_n (x := some 479) (pc2 := 31) d_De_doSteps_30 rfl rfl ?_
      refine q_getR (x := some 484) (pc2 := 34) d_De_doSteps_31 rfl k_De_31 rfl (sh_479 hS) (rf_479_3 hR) ?_
      refine q_getR (x := some 486) (pc2 := 37) d_De_doSteps_34 rfl k_De_92 rfl (sh_484 hS) (rf_484_1 hR) ?_
      refine r_iload (pc2 := 39) d_De_doSteps_37 rfl rfl ?_
      refine q_iaload (q := b) (x := nI ff) (pc2 := 40) d_De_doSteps_39 rfl (sh_486 hS) (nI_toInt (by omega)) (by omega) (hds.2.1.trans f1) ?_
      refine r_aload_n (x := some 479) (pc2 := 41) d_De_doSteps_40 rfl rfl ?_
      refine q_getR (x := some 484) (pc2 := 44) d_De_doSteps_41 rfl k_De_31 rfl (sh_479 hS) (rf_479_3 hR) ?_
      refine q_getR (x := some 487) (pc2 := 47) d_De_doSteps_44 rfl k_De_94 rfl (sh_484 hS) (rf_484_2 hR) ?_
      refine r_iload (pc2 := 49) d_De_doSteps_47 rfl rfl ?_
      refine q_iaload (q := b) (x := nI rr) (pc2 := 50) d_De_doSteps_49 rfl (sh_487 hS) (nI_toInt (by omega)) (by omega) (hds.2.2.1.trans r1) ?_
      refine r_aload_n (x := some 479) (pc2 := 51) d_De_doSteps_50 rfl rfl ?_
      refine q_getR (x := some 484) (pc2 := 54) d_De_doSteps_51 rfl k_De_31 rfl (sh_479 hS) (rf_479_3 hR) ?_
      refine q_getR (x := some 488) (pc2 := 57) d_De_doSteps_54 rfl k_De_97 rfl (sh_484 hS) (rf_484_3 hR) ?_
      refine r_iload (pc2 := 59) d_De_doSteps_57 rfl rfl ?_
      refine q_iaload (q := b) (x := nI kk) (pc2 := 60) d_De_doSteps_59 rfl (sh_488 hS) (nI_toInt (by omega)) (by omega) (hds.2.2.2.1.trans k1) ?_
      refine r_aload_n (x := some 479) (pc2 := 61) d_De_doSteps_60 rfl rfl ?_
      refine q_getR (x := some 484) (pc2 := 64) d_De_doSteps_61 rfl k_De_31 rfl (sh_479 hS) (rf_479_3 hR) ?_
      refine q_getR (x := some 489) (pc2 := 67) d_De_doSteps_64 rfl k_De_100 rfl (sh_484 hS) (rf_484_4 hR) ?_
      refine r_iload (pc2 := 69) d_De_doSteps_67 rfl rfl ?_
      refine q_iaload (q := b) (x := nI qq) (pc2 := 70) d_De_doSteps_69 rfl (sh_489 hS) (nI_toInt (by omega)) (by omega) (hds.2.2.2.2.trans q1) ?_
      refine r_callv (M2 := mi_De_setPart) (pc2 := 73) d_De_doSteps_70 rfl k_De_103 cm_De_setPart cv_De_setPart (sh_479 hS) (by decide) rfl rfl rfl (Nat.le_of_ble_eq_true rfl) (c_De_setPart_2 (J := J) hS hR hW hT hD (F := ff) (r := rr) (k := kk) f3 r3 ⟨k3, k4⟩ (v := nI qq) (by rw [nI_toInt (by omega)]; omega) (d := d - 1) (by omega)) (d2 := d - 1) (by omega) (Nat.le_of_eq (Nat.zero_add _)) (Nat.le_of_eq (Nat.zero_add _)) (fun r2 h2 hq2 => ?_)
      obtain ⟨rfl, K4, rfl, hfK4, hdK4⟩ := hq2
      change Run _ _ _ _ _ _ [] _ _
      refine r_aload_n (x := some 479) (pc2 := 74) d_De_doSteps_73 rfl rfl ?_
      refine q_getR (x := some 484) (pc2 := 77) d_De_doSteps_74 rfl k_De_31 rfl (sh_479 hS) (rf_479_3 hR) ?_
      refine r_iload (pc2 := 79) d_De_doSteps_77 rfl rfl ?_
      refine r_callv (M2 := mi_St_remove) (pc2 := 82) d_De_doSteps_79 rfl k_De_107 cm_St_remove cv_St_remove (sh_484 hS) (by decide) rfl rfl rfl (Nat.le_of_ble_eq_true rfl) (c_St_remove_2 (J := K4) hS hR (nS := n + 1) hdK4.1.2.2.2.2.2 (by omega) (p := b) (by omega) (d := d - 1) (by omega)) (d2 := d - 1) (by omega) (Nat.le_of_eq (Nat.zero_add _)) (Nat.le_of_eq (Nat.zero_add _)) (fun r2 h2 hq2 => ?_)
      obtain ⟨rfl, K5, rfl, hK5⟩ := hq2
      change Run _ _ _ _ _ _ [] _ _
      have hw1 := stpP_W (v := nI qq) (k := kk) (r := rr) hW f3 ⟨k3, k4⟩ (by rw [nI_toInt (by omega)]; omega) r3
      have hu := DR.unstep (by decide) hw1 (by omega) hbl hdK4 hK5
      have hs1 : shf (u1 (stpP G ff rr kk (nI qq)) 2 (nI (n + 1 - 1))) (54 + 5 * b) (54 + 5 * (n + 1 - 1)) 5 = stp1 G b := by unfold stp1; rw [hT.1, nI_toInt (by omega), f2, r2, k2, q1]; simp only [Int.toNat_natCast]
      rw [hs1] at hu
      have hst : stI t (n + 1) G = ((stI t n (stp1 G b)).1 + 1, (stI t n (stp1 G b)).2) := by rw [show stI t (n + 1) G = (match bestI G t (n + 1) with | none => (0, G) | some b => ((stI t n (stp1 G b)).1 + 1, (stI t n (stp1 G b)).2)) from rfl, hob]
      rw [hst] at v4_ v5_
      have hfk : FrE 2 K4 K5 := fun a j q => by rw [rd_ne hK5 (by unfold dk at q; omega), st5_o (by unfold dk at q; omega)]
      refine q_iinc (b := 1) (pc2 := 85) d_De_doSteps_82 rfl rfl (by decide) (Nat.le_of_ble_eq_true rfl) ?_
      refine q_iinc (b := 1) (pc2 := 88) d_De_doSteps_85 rfl rfl (by decide) (Nat.le_of_ble_eq_true rfl) ?_
      refine r_goto (tgt := 4) d_De_doSteps_88 rfl ?_
      refine Run.sub (l2 := [(0, .ref 479), (1, .int t), (2, .int (nI (did + 1))), (3, .int (nI (k + 1)))]) ⟨rfl, rfl, rfl, rfl, trivial⟩ ?_
      exact ih_ (24 - (k + 1)) (by omega) (k + 1) (did + 1) n (stp1 G b) K5 rfl ((v0_.tr hfK4).tr hfk) (stp1_W hW hT hbl) (stp1_T hT hbl) (hu) (by dsimp only at v4_; omega) (by dsimp only at v5_; exact v5_) (by omega) (by omega)
theorem c_De_doSteps_2 {d : Nat} {J : Nat → Nat → Int32} {R : Nat → Nat → Option Nat} {L : Nat → Nat → Int64} {sh : Nat → Nat × Nat} {N : Nat} (hS : ShOK sh) (hR : RfOK R) {tK tF tC tS : Nat → Int32} {nt : Nat} {G : Nat → Int32} {nP nF nS : Nat} (hW : WFA G nP nF nt) (hT : WFT G nF nS) (hD : DR tK tF tC tS J R sh nt 2 G nP nF nS) {t : Int32} (hd : 12 ≤ d) : Mt mi_De_doSteps d 0 0 [.ref 479, .int t] (J, R, L, sh, N) (fun x h2 => ∃ K, h2 = (K, R, L, sh, N) ∧ x = some (.int (nI (stI t nS G).1)) ∧ FrE 2 J K ∧ DR tK tF tC tS K R sh nt 2 (stI t nS G).2 nP nF (nS - (stI t nS G).1)) := by
  obtain ⟨hPc, hP24, hFc, hF12, hWF, hWP⟩ := id hW
  have hS24 := hT.2.1
  refine Mt.of pn_De (Nat.le_of_ble_eq_true rfl) ?_
  show Run mi_De_doSteps d 0 0 0 [(0, .ref 479), (1, .int t)] [] (J, R, L, sh, N) _
  refine r_iconst (v := nI 0) (pc2 := 1) d_De_doSteps_0 rfl (by decide) ?_
  refine r_istore_n (pc2 := 2) d_De_doSteps_1 rfl rfl (Nat.le_of_ble_eq_true rfl) ?_
  refine r_iconst (v := nI 0) (pc2 := 3) d_De_doSteps_2 rfl (by decide) ?_
  refine r_istore_n (pc2 := 4) d_De_doSteps_3 rfl rfl (Nat.le_of_ble_eq_true rfl) ?_
  refine Run.sub (l2 := [(0, .ref 479), (1, .int t), (2, .int (nI 0)), (3, .int (nI 0))]) ⟨rfl, rfl, rfl, rfl, trivial⟩ ?_
  exact l_De_doSteps_2 hS hR (nS0 := nS) hd (fun K h1 h2 => ⟨K, rfl, rfl, h1, h2⟩) _ 0 0 nS G J rfl FrE.rf hW hT hD (Nat.zero_add _) rfl (by omega) (Nat.add_zero _)
