/-! THE CLASS: an answer, its needs -/
theorem wo3_r {G : Nat → Int32} {tb : Nat → Bool} {key : Int32} {F : Nat} : 2 < (wo3 G tb key F).2.1.toInt := by
  unfold wo3
  cases fst1 (fun r => tb (G (174 + 84 * F + 60 + 4 * r + 0)).toInt.toNat) (G (174 + 84 * F + 4)).toInt.toNat with
  | none => show 2 < (7 : Int32).toInt; decide
  | some r => show 2 < (6 : Int32).toInt; decide
theorem wo2_r {G : Nat → Int32} {tb : Nat → Bool} {key : Int32} {p F : Nat} : 2 < (wo2 G tb key p F).2.1.toInt := by
  rw [wo2_eq]
  split
  · show 2 < (4 : Int32).toInt; decide
  · split
    · show 2 < (5 : Int32).toInt; decide
    · exact wo3_r
theorem ovV_some {G : Nat → Int32} {F k : Nat} {key : Int32} (h : oB G F (G (174 + 84 * F + 6)).toInt.toNat key = some k) : ovV G F key = G (174 + 84 * F + (20 + 2 * k + 1)) := by unfold ovV; rw [h]
theorem ovV_none {G : Nat → Int32} {F : Nat} {key : Int32} (h : oB G F (G (174 + 84 * F + 6)).toInt.toNat key = none) : ovV G F key = -1 := by unfold ovV; rw [h]
theorem c_X_decideAlone {d : Nat} {I : Nat → Nat → Int32} {R : Nat → Nat → Option Nat} {L : Nat → Nat → Int64} {sh : Nat → Nat × Nat} {N : Nat} (hS : ShOK sh) (hR : RfOK R) {tK tF tC tS : Nat → Int32} {nt : Nat} (hV : TV tK tF tC nt) (hV2 : TV2 tK tF tC tS nt) (hnt6 : nt ≤ 1000000) {G : Nat → Int32} {nP nF nS e : Nat} (he : e < 3) (hW : WFA G nP nF nt) (hD : DR tK tF tC tS I R sh nt e G nP nF nS) {An : Nat → Int32 × Int32 × Int32} {A : Nat} (hA : A = 718 ∨ A = 723) {p : Nat} (hp : p < nP) {F : Nat} (hF : F < nF) {l : List Nat} (hl : F ∉ l) (hll : l.length < 12) (hl12 : ∀ x ∈ l, x < 12) {J : Nat → Nat → Int32} (hJ : FrN sh A I J) (hAS : AS An A l J) (hAn : An F = wo2 G (fun t => TRK tK tF tC tS (G (6 + 2 * p)) (G (6 + 2 * p + 1)).toInt.toNat t) (G (6 + 2 * p)) p F) (hd : 5 ≤ d) : Mt mi_X_decideAlone d 0 0 [.ref (fe e F), .int (nI F), .ref (dk e + 1), .ref A, .int (nI p)] (J, R, L, sh, N) (fun r h2 => r = none ∧ ∃ K, h2 = (K, R, L, sh, N) ∧ FrN sh A I K ∧ AS An A (l ++ [F]) K) := by
  obtain ⟨hPc, hP24, hFc, hF12, hWF, hWP⟩ := id hW
  have hF12b : F < 12 := by omega
  have hfl := fe_lt he hF12b
  obtain ⟨B, hB⟩ : ∃ B, B = bkt (G (174 + 84 * F + 7) + nI 100) (G (6 + 2 * p)) := ⟨_, rfl⟩
  rw [wo2_eq, ← hB] at hAn
  refine Mt.of pn_X (Nat.le_of_ble_eq_true rfl) ?_
  show Run mi_X_decideAlone d 0 0 0 [(0, .ref (fe e F)), (1, .int (nI F)), (2, .ref (dk e + 1)), (3, .ref A), (4, .int (nI p))] [] (J, R, L, sh, N) _
  obtain ⟨tpF, klF, skF, fbF, nRF, nNF, nOF, frF, toF, ⟨a0F, b0F, cc0F, dd0F⟩, ⟨a1F, b1F, cc1F, dd1F⟩, ⟨a2F, b2F, cc2F, dd2F⟩, ⟨a3F, b3F, cc3F, dd3F⟩, ⟨a4F, b4F, cc4F, dd4F⟩, ⟨a5F, b5F, cc5F, dd5F⟩, ⟨a6F, b6F, cc6F, dd6F⟩, ⟨a8F, b8F, cc8F, dd8F⟩, ⟨a9F, b9F, cc9F, dd9F⟩⟩ := wfn (hWF F (by omega))
  obtain ⟨-, -, -, -, -, -, -, w7F, -, -, wNF, wRF, wKF, wOF⟩ := hWF F (by omega)
  obtain ⟨⟨x0F, x1F, x2F, x3F, x4F, x5F, x6F, x7F, x8F⟩, xnF, xoF, xkF, xcF, xrF⟩ := hD.2.2.2.1 F (by omega)
  have hj0 : J (fe e F) = I (fe e F) := hJ.row (by omega) (by rw [sh_fe0 hS he hF12b]; decide)
  have hj1 : J (fe e F + 4) = I (fe e F + 4) := hJ.row (by omega) (by rw [sh_fe4 hS he hF12b]; show 12 ≠ 14; decide)
  have hj2 : J (fe e F + 5) = I (fe e F + 5) := hJ.row (by omega) (by rw [sh_fe5 hS he hF12b]; show 12 ≠ 14; decide)
  have hj3 : J (dk e + 2) = I (dk e + 2) := hJ.row (by omega) (by rw [(sh_dks hS he).2.2.1]; show 12 ≠ 14; decide)
  have hj4 : J (dk e + 3) = I (dk e + 3) := hJ.row (by omega) (by rw [(sh_dks hS he).2.2.2.1]; show 12 ≠ 14; decide)
  have hj5 : J (fe e F + 2) = I (fe e F + 2) := hJ.row (by omega) (by rw [sh_fe2 hS he hF12b]; show 12 ≠ 14; decide)
  have hj6 : J (fe e F + 3) = I (fe e F + 3) := hJ.row (by omega) (by rw [sh_fe3 hS he hF12b]; show 12 ≠ 14; decide)
  refine r_aload_n (x := some (dk e + 1)) (pc2 := 1) d_X_decideAlone_0 rfl rfl ?_
  refine q_getR (x := some (dk e + 2)) (pc2 := 4) d_X_decideAlone_1 rfl k_X_202 rfl ((sh_dks hS he).2.1) ((rf_dk hR he).2.2.2.1) ?_
  refine r_iload (pc2 := 6) d_X_decideAlone_4 rfl rfl ?_
  refine q_iaload (q := p) (x := G (6 + 2 * p)) (pc2 := 7) d_X_decideAlone_6 rfl ((sh_dks hS he).2.2.1) (nI_toInt (by omega)) (by omega) ((congrFun hj3 _).trans ((hD.2.1 p (by omega)).1)) ?_
  refine r_istore (pc2 := 9) d_X_decideAlone_7 rfl (Nat.le_of_ble_eq_true rfl) ?_
  refine r_aload_n (x := some (fe e F)) (pc2 := 10) d_X_decideAlone_9 rfl rfl ?_
  refine q_getI (x := G (174 + 84 * F + 7)) (pc2 := 13) d_X_decideAlone_10 rfl k_X_381 (by decide) (sh_fe0 hS he hF12b) ((congrFun hj0 _).trans (x6F)) ?_
  refine r_iconst (v := (-1 : Int32)) (pc2 := 14) d_X_decideAlone_13 rfl (by decide) ?_
  refine q_icmp_eq (tgt := 61) (A := (G (174 + 84 * F + 7)).toInt) (B := (-1 : Int)) (pc2 := 17) d_X_decideAlone_14 rfl rfl (rfl) (by decide) (fun c1 => ?_) (fun c1 => ?_)
  · rw [if_neg (by omega)] at hAn
    refine r_aload_n (x := some (fe e F)) (pc2 := 62) d_X_decideAlone_61 rfl rfl ?_
    refine q_getR (x := some (fe e F + 5)) (pc2 := 65) d_X_decideAlone_62 rfl k_X_365 rfl (sh_fe0 hS he hF12b) (rf_fe_10 hR he (show F < 12 by omega)) ?_
    refine r_iload (pc2 := 67) d_X_decideAlone_65 rfl rfl ?_
    refine q_iaload (q := p) (x := kpV (G (174 + 84 * F + (36 + p)))) (pc2 := 68) d_X_decideAlone_67 rfl (sh_fe5 hS he (show F < 12 by omega)) (nI_toInt (by omega)) (by omega) ((congrFun hj2 _).trans ((xkF p (by omega)).trans (if_pos (by omega)))) ?_
    have hkv := kpV_iff (wKF p (by omega))
    refine r_iconst (v := (-1 : Int32)) (pc2 := 69) d_X_decideAlone_68 rfl (by decide) ?_
    refine q_icmp_eq (tgt := 87) (A := (kpV (G (174 + 84 * F + (36 + p)))).toInt) (B := (-1 : Int)) (pc2 := 72) d_X_decideAlone_69 rfl rfl (rfl) (by decide) (fun c2 => ?_) (fun c2 => ?_)
    · rw [if_neg (by omega)] at hAn
      refine r_iconst (v := nI 0) (pc2 := 88) d_X_decideAlone_87 rfl (by decide) ?_
      refine r_istore (pc2 := 90) d_X_decideAlone_88 rfl (Nat.le_of_ble_eq_true rfl) ?_
      refine Run.sub (l2 := [(0, .ref (fe e F)), (1, .int (nI F)), (2, .ref (dk e + 1)), (3, .ref A), (4, .int (nI p)), (5, .int (G (6 + 2 * p))), (6, .int (nI 0))]) ⟨rfl, rfl, rfl, rfl, rfl, rfl, rfl, trivial⟩ ?_
      exact l_X_decideAlone hS hR hV hV2 hnt6 he hW hD hA hp hF hl hll hl12 hAn hd _ 0 J rfl hJ hAS (fun j hj => absurd hj (by omega)) (Nat.zero_le _)
    · refine r_aload_n (x := some A) (pc2 := 73) d_X_decideAlone_72 rfl rfl ?_
      refine r_iload_n (pc2 := 74) d_X_decideAlone_73 rfl rfl ?_
      refine r_aload_n (x := some (fe e F)) (pc2 := 75) d_X_decideAlone_74 rfl rfl ?_
      refine q_getR (x := some (fe e F + 5)) (pc2 := 78) d_X_decideAlone_75 rfl k_X_365 rfl (sh_fe0 hS he hF12b) (rf_fe_10 hR he (show F < 12 by omega)) ?_
      refine r_iload (pc2 := 80) d_X_decideAlone_78 rfl rfl ?_
      refine q_iaload (q := p) (x := kpV (G (174 + 84 * F + (36 + p)))) (pc2 := 81) d_X_decideAlone_80 rfl (sh_fe5 hS he (show F < 12 by omega)) (nI_toInt (by omega)) (by omega) ((congrFun hj2 _).trans ((xkF p (by omega)).trans (if_pos (by omega)))) ?_
      refine r_iconst (v := nI 5) (pc2 := 82) d_X_decideAlone_81 rfl (by decide) ?_
      refine r_iconst (v := (-1 : Int32)) (pc2 := 83) d_X_decideAlone_82 rfl (by decide) ?_
      refine r_callv (M2 := mi_An_put) (pc2 := 86) d_X_decideAlone_83 rfl k_X_451 cm_An_put cv_An_put ((an_sh hS hA).1) (by decide) rfl rfl rfl (Nat.le_of_ble_eq_true rfl) (c_An_put (I := I) (J := J) (v := kpV (G (174 + 84 * F + (36 + p)))) (b := nI 5) (c := (-1 : Int32)) hS hR hA hJ hAS (F := F) (by omega) hl hll hl12 (by rw [hAn, if_pos (by omega), hkv.2 (by omega)]; rfl)) (d2 := d - 1) (by omega) (Nat.le_of_eq (Nat.zero_add _)) (Nat.le_of_eq (Nat.zero_add _)) (fun r2 h2 hq2 => ?_)
      obtain ⟨rfl, K, rfl, hK1, hK2⟩ := hq2
      change Run _ _ _ _ _ _ [] _ _
      refine Run.ret none d_X_decideAlone_86 rfl ?_
      exact ⟨rfl, K, rfl, hK1, hK2⟩
  · refine r_aload_n (x := some (fe e F)) (pc2 := 18) d_X_decideAlone_17 rfl rfl ?_
    refine q_getI (x := G (174 + 84 * F + 7)) (pc2 := 21) d_X_decideAlone_18 rfl k_X_381 (by decide) (sh_fe0 hS he hF12b) ((congrFun hj0 _).trans (x6F)) ?_
    refine r_bipush (v := nI 100) (pc2 := 23) d_X_decideAlone_21 rfl (by decide) ?_
    refine r_iadd (pc2 := 24) d_X_decideAlone_23 rfl ?_
    refine r_iload (pc2 := 26) d_X_decideAlone_24 rfl rfl ?_
    refine q_calls (M2 := mi_X_bucketBy) (pc2 := 29) d_X_decideAlone_26 rfl k_X_205 cm_X_bucketBy cs_X_bucketBy rfl rfl (Nat.le_of_ble_eq_true rfl) (c_X_bucketBy (s := (G (174 + 84 * F + 7)) + (nI 100)) (k := G (6 + 2 * p))) (d2 := d - 1) (by omega) (Nat.le_of_eq (Nat.zero_add _)) (Nat.le_of_eq (Nat.zero_add _)) ?_
    rw [← hB]
    refine r_istore (pc2 := 31) d_X_decideAlone_29 rfl (Nat.le_of_ble_eq_true rfl) ?_
    refine r_iload (pc2 := 33) d_X_decideAlone_31 rfl rfl ?_
    refine r_aload_n (x := some (fe e F)) (pc2 := 34) d_X_decideAlone_33 rfl rfl ?_
    refine q_getI (x := nI frF) (pc2 := 37) d_X_decideAlone_34 rfl k_X_387 (by decide) (sh_fe0 hS he hF12b) ((congrFun hj0 _).trans (x7F.trans a8F)) ?_
    refine q_icmp_lt (tgt := 49) (A := B.toInt) (B := ((frF : Nat) : Int)) (pc2 := 40) d_X_decideAlone_37 rfl rfl (rfl) (nI_toInt (by omega)) (fun c3 => ?_) (fun c3 => ?_)
    · refine r_aload_n (x := some A) (pc2 := 50) d_X_decideAlone_49 rfl rfl ?_
      refine r_iload_n (pc2 := 51) d_X_decideAlone_50 rfl rfl ?_
      refine r_iconst (v := nI 0) (pc2 := 52) d_X_decideAlone_51 rfl (by decide) ?_
      refine r_iconst (v := nI 4) (pc2 := 53) d_X_decideAlone_52 rfl (by decide) ?_
      refine r_aload_n (x := some (fe e F)) (pc2 := 54) d_X_decideAlone_53 rfl rfl ?_
      refine q_getI (x := G (174 + 84 * F + 7)) (pc2 := 57) d_X_decideAlone_54 rfl k_X_381 (by decide) (sh_fe0 hS he hF12b) ((congrFun hj0 _).trans (x6F)) ?_
      refine r_callv (M2 := mi_An_put) (pc2 := 60) d_X_decideAlone_57 rfl k_X_451 cm_An_put cv_An_put ((an_sh hS hA).1) (by decide) rfl rfl rfl (Nat.le_of_ble_eq_true rfl) (c_An_put (I := I) (J := J) (v := nI 0) (b := nI 4) (c := G (174 + 84 * F + 7)) hS hR hA hJ hAS (F := F) (by omega) hl hll hl12 (by rw [hAn, if_pos (by omega)]; rfl)) (d2 := d - 1) (by omega) (Nat.le_of_eq (Nat.zero_add _)) (Nat.le_of_eq (Nat.zero_add _)) (fun r2 h2 hq2 => ?_)
      obtain ⟨rfl, K, rfl, hK1, hK2⟩ := hq2
      change Run _ _ _ _ _ _ [] _ _
      refine Run.ret none d_X_decideAlone_60 rfl ?_
      exact ⟨rfl, K, rfl, hK1, hK2⟩
    · refine r_iload (pc2 := 42) d_X_decideAlone_40 rfl rfl ?_
      refine r_aload_n (x := some (fe e F)) (pc2 := 43) d_X_decideAlone_42 rfl rfl ?_
      refine q_getI (x := nI toF) (pc2 := 46) d_X_decideAlone_43 rfl k_X_384 (by decide) (sh_fe0 hS he hF12b) ((congrFun hj0 _).trans (x8F.trans a9F)) ?_
      refine q_icmp_le (tgt := 61) (A := B.toInt) (B := ((toF : Nat) : Int)) (pc2 := 49) d_X_decideAlone_46 rfl rfl (rfl) (nI_toInt (by omega)) (fun c4 => ?_) (fun c4 => ?_)
      · rw [if_neg (by omega)] at hAn
        refine r_aload_n (x := some (fe e F)) (pc2 := 62) d_X_decideAlone_61 rfl rfl ?_
        refine q_getR (x := some (fe e F + 5)) (pc2 := 65) d_X_decideAlone_62 rfl k_X_365 rfl (sh_fe0 hS he hF12b) (rf_fe_10 hR he (show F < 12 by omega)) ?_
        refine r_iload (pc2 := 67) d_X_decideAlone_65 rfl rfl ?_
        refine q_iaload (q := p) (x := kpV (G (174 + 84 * F + (36 + p)))) (pc2 := 68) d_X_decideAlone_67 rfl (sh_fe5 hS he (show F < 12 by omega)) (nI_toInt (by omega)) (by omega) ((congrFun hj2 _).trans ((xkF p (by omega)).trans (if_pos (by omega)))) ?_
        have hkv := kpV_iff (wKF p (by omega))
        refine r_iconst (v := (-1 : Int32)) (pc2 := 69) d_X_decideAlone_68 rfl (by decide) ?_
        refine q_icmp_eq (tgt := 87) (A := (kpV (G (174 + 84 * F + (36 + p)))).toInt) (B := (-1 : Int)) (pc2 := 72) d_X_decideAlone_69 rfl rfl (rfl) (by decide) (fun c5 => ?_) (fun c5 => ?_)
        · rw [if_neg (by omega)] at hAn
          refine r_iconst (v := nI 0) (pc2 := 88) d_X_decideAlone_87 rfl (by decide) ?_
          refine r_istore (pc2 := 90) d_X_decideAlone_88 rfl (Nat.le_of_ble_eq_true rfl) ?_
          refine Run.sub (l2 := [(0, .ref (fe e F)), (1, .int (nI F)), (2, .ref (dk e + 1)), (3, .ref A), (4, .int (nI p)), (5, .int (G (6 + 2 * p))), (6, .int (nI 0))]) ⟨rfl, rfl, rfl, rfl, rfl, rfl, rfl, trivial⟩ ?_
          exact l_X_decideAlone hS hR hV hV2 hnt6 he hW hD hA hp hF hl hll hl12 hAn hd _ 0 J rfl hJ hAS (fun j hj => absurd hj (by omega)) (Nat.zero_le _)
        · refine r_aload_n (x := some A) (pc2 := 73) d_X_decideAlone_72 rfl rfl ?_
          refine r_iload_n (pc2 := 74) d_X_decideAlone_73 rfl rfl ?_
          refine r_aload_n (x := some (fe e F)) (pc2 := 75) d_X_decideAlone_74 rfl rfl ?_
          refine q_getR (x := some (fe e F + 5)) (pc2 := 78) d_X_decideAlone_75 rfl k_X_365 rfl (sh_fe0 hS he hF12b) (rf_fe_10 hR he (show F < 12 by omega)) ?_
          refine r_iload (pc2 := 80) d_X_decideAlone_78 rfl rfl ?_
          refine q_iaload (q := p) (x := kpV (G (174 + 84 * F + (36 + p)))) (pc2 := 81) d_X_decideAlone_80 rfl (sh_fe5 hS he (show F < 12 by omega)) (nI_toInt (by omega)) (by omega) ((congrFun hj2 _).trans ((xkF p (by omega)).trans (if_pos (by omega)))) ?_
          refine r_iconst (v := nI 5) (pc2 := 82) d_X_decideAlone_81 rfl (by decide) ?_
          refine r_iconst (v := (-1 : Int32)) (pc2 := 83) d_X_decideAlone_82 rfl (by decide) ?_
          refine r_callv (M2 := mi_An_put) (pc2 := 86) d_X_decideAlone_83 rfl k_X_451 cm_An_put cv_An_put ((an_sh hS hA).1) (by decide) rfl rfl rfl (Nat.le_of_ble_eq_true rfl) (c_An_put (I := I) (J := J) (v := kpV (G (174 + 84 * F + (36 + p)))) (b := nI 5) (c := (-1 : Int32)) hS hR hA hJ hAS (F := F) (by omega) hl hll hl12 (by rw [hAn, if_pos (by omega), hkv.2 (by omega)]; rfl)) (d2 := d - 1) (by omega) (Nat.le_of_eq (Nat.zero_add _)) (Nat.le_of_eq (Nat.zero_add _)) (fun r2 h2 hq2 => ?_)
          obtain ⟨rfl, K, rfl, hK1, hK2⟩ := hq2
          change Run _ _ _ _ _ _ [] _ _
          refine Run.ret none d_X_decideAlone_86 rfl ?_
          exact ⟨rfl, K, rfl, hK1, hK2⟩
      · refine r_aload_n (x := some A) (pc2 := 50) d_X_decideAlone_49 rfl rfl ?_
        refine r_iload_n (pc2 := 51) d_X_decideAlone_50 rfl rfl ?_
        refine r_iconst (v := nI 0) (pc2 := 52) d_X_decideAlone_51 rfl (by decide) ?_
        refine r_iconst (v := nI 4) (pc2 := 53) d_X_decideAlone_52 rfl (by decide) ?_
        refine r_aload_n (x := some (fe e F)) (pc2 := 54) d_X_decideAlone_53 rfl rfl ?_
        refine q_getI (x := G (174 + 84 * F + 7)) (pc2 := 57) d_X_decideAlone_54 rfl k_X_381 (by decide) (sh_fe0 hS he hF12b) ((congrFun hj0 _).trans (x6F)) ?_
        refine r_callv (M2 := mi_An_put) (pc2 := 60) d_X_decideAlone_57 rfl k_X_451 cm_An_put cv_An_put ((an_sh hS hA).1) (by decide) rfl rfl rfl (Nat.le_of_ble_eq_true rfl) (c_An_put (I := I) (J := J) (v := nI 0) (b := nI 4) (c := G (174 + 84 * F + 7)) hS hR hA hJ hAS (F := F) (by omega) hl hll hl12 (by rw [hAn, if_pos (by omega)]; rfl)) (d2 := d - 1) (by omega) (Nat.le_of_eq (Nat.zero_add _)) (Nat.le_of_eq (Nat.zero_add _)) (fun r2 h2 hq2 => ?_)
        obtain ⟨rfl, K, rfl, hK1, hK2⟩ := hq2
        change Run _ _ _ _ _ _ [] _ _
        refine Run.ret none d_X_decideAlone_60 rfl ?_
        exact ⟨rfl, K, rfl, hK1, hK2⟩
theorem l_X_decide {d : Nat} {I : Nat → Nat → Int32} {R : Nat → Nat → Option Nat} {L : Nat → Nat → Int64} {sh : Nat → Nat × Nat} {N : Nat} (hS : ShOK sh) (hR : RfOK R) {tK tF tC tS : Nat → Int32} {nt : Nat} (hV : TV tK tF tC nt) (hV2 : TV2 tK tF tC tS nt) (hnt6 : nt ≤ 1000000) {G : Nat → Int32} {nP nF nS e : Nat} (he : e < 3) (hW : WFA G nP nF nt) (hD : DR tK tF tC tS I R sh nt e G nP nF nS) {rk : Nat → Nat} (hrk : RK G nF rk) {A : Nat} (hA : A = 718 ∨ A = 723) {p : Nat} (hp : p < nP) {F : Nat} (hF : F < nF) (ihD : ∀ o, o < nF → rk o < rk F → ∀ (l : List Nat) (J : Nat → Nat → Int32), FrN sh A I J → AS (AN (TRK tK tF tC tS) G p) A l J → l.Nodup → (∀ x ∈ l, x < nF) → ∀ dp d, dp + rk o < 12 → 2 * rk o + 10 ≤ d → Mt mi_X_decide d 0 0 [.ref (dk e), .ref A, .int (nI p), .int (nI o), .int (nI dp)] (J, R, L, sh, N) (fun r h2 => r = none ∧ ∃ K, h2 = (K, R, L, sh, N) ∧ FrN sh A I K ∧ AS (AN (TRK tK tF tC tS) G p) A (pth G (AN (TRK tK tF tC tS) G p) 12 o l) K)) {l : List Nat} {dp : Nat} (hdp : dp + rk F < 12) (hpt : 2 < (AN (TRK tK tF tC tS) G p F).2.1.toInt → pth G (AN (TRK tK tF tC tS) G p) 12 F l = pthN (pth G (AN (TRK tK tF tC tS) G p) 12) (nStop G (AN (TRK tK tF tC tS) G p) F) (ndF G F) (G (174 + 84 * F + 5)).toInt.toNat 0 l ++ [F]) (hno : AN (TRK tK tF tC tS) G p F = match fst1 (fun n => decide ((AN (TRK tK tF tC tS) G p (ndF G F n)).1 ≠ G (174 + 84 * F + (14 + 2 * n + 1)))) (G (174 + 84 * F + 5)).toInt.toNat with
    | some n => (0, 3, nI (ndF G F n))
    | none => wo2 G (fun t => TRK tK tF tC tS (G (6 + 2 * p)) (G (6 + 2 * p + 1)).toInt.toNat t) (G (6 + 2 * p)) p F) (hd : 2 * rk F + 10 ≤ d) : ∀ (n_ : Nat) (n : Nat) (J : Nat → Nat → Int32) (l2 : List Nat), (G (174 + 84 * F + 5)).toInt.toNat - n = n_ → (FrN sh A I J) → (AS (AN (TRK tK tF tC tS) G p) A l2 J) → (l2.Nodup) → (∀ x ∈ l2, x < nF) → (pthN (pth G (AN (TRK tK tF tC tS) G p) 12) (nStop G (AN (TRK tK tF tC tS) G p) F) (ndF G F) (G (174 + 84 * F + 5)).toInt.toNat 0 l = pthN (pth G (AN (TRK tK tF tC tS) G p) 12) (nStop G (AN (TRK tK tF tC tS) G p) F) (ndF G F) ((G (174 + 84 * F + 5)).toInt.toNat - n) n l2) → (F ∉ l2) → (∀ j, j < n → (fun n => decide ((AN (TRK tK tF tC tS) G p (ndF G F n)).1 ≠ G (174 + 84 * F + (14 + 2 * n + 1)))) j = false) → (n ≤ (G (174 + 84 * F + 5)).toInt.toNat) → Run mi_X_decide d 0 0 81 [(0, .ref (dk e)), (1, .ref A), (2, .int (nI p)), (3, .int (nI F)), (4, .int (nI dp)), (5, .ref (fe e F)), (6, .int (nI n))] [] (J, R, L, sh, N) (fun r h2 => r = none ∧ ∃ K, h2 = (K, R, L, sh, N) ∧ FrN sh A I K ∧ AS (AN (TRK tK tF tC tS) G p) A (pth G (AN (TRK tK tF tC tS) G p) 12 F l) K) := by
  intro n_
  induction n_ using Nat.strongRecOn with | ind n_ ih_ => ?_
  intro n J l2 hn_ v0_ v1_ v2_ v3_ v4_ v5_ v6_ v7_
  obtain ⟨hPc, hP24, hFc, hF12, hWF, hWP⟩ := id hW
  have hF12b : F < 12 := by omega
  have hfl := fe_lt he hF12b
  obtain ⟨tpF, klF, skF, fbF, nRF, nNF, nOF, frF, toF, ⟨a0F, b0F, cc0F, dd0F⟩, ⟨a1F, b1F, cc1F, dd1F⟩, ⟨a2F, b2F, cc2F, dd2F⟩, ⟨a3F, b3F, cc3F, dd3F⟩, ⟨a4F, b4F, cc4F, dd4F⟩, ⟨a5F, b5F, cc5F, dd5F⟩, ⟨a6F, b6F, cc6F, dd6F⟩, ⟨a8F, b8F, cc8F, dd8F⟩, ⟨a9F, b9F, cc9F, dd9F⟩⟩ := wfn (hWF F (by omega))
  obtain ⟨-, -, -, -, -, -, -, w7F, -, -, wNF, wRF, wKF, wOF⟩ := hWF F (by omega)
  obtain ⟨⟨x0F, x1F, x2F, x3F, x4F, x5F, x6F, x7F, x8F⟩, xnF, xoF, xkF, xcF, xrF⟩ := hD.2.2.2.1 F (by omega)
  have hj0 : J (fe e F) = I (fe e F) := v0_.row (by omega) (by rw [sh_fe0 hS he hF12b]; decide)
  have hj1 : J (fe e F + 4) = I (fe e F + 4) := v0_.row (by omega) (by rw [sh_fe4 hS he hF12b]; show 12 ≠ 14; decide)
  have hj2 : J (fe e F + 5) = I (fe e F + 5) := v0_.row (by omega) (by rw [sh_fe5 hS he hF12b]; show 12 ≠ 14; decide)
  have hj3 : J (dk e + 2) = I (dk e + 2) := v0_.row (by omega) (by rw [(sh_dks hS he).2.2.1]; show 12 ≠ 14; decide)
  have hj4 : J (dk e + 3) = I (dk e + 3) := v0_.row (by omega) (by rw [(sh_dks hS he).2.2.2.1]; show 12 ≠ 14; decide)
  have hj5 : J (fe e F + 2) = I (fe e F + 2) := v0_.row (by omega) (by rw [sh_fe2 hS he hF12b]; show 12 ≠ 14; decide)
  have hj6 : J (fe e F + 3) = I (fe e F + 3) := v0_.row (by omega) (by rw [sh_fe3 hS he hF12b]; show 12 ≠ 14; decide)
  refine r_iload (pc2 := 83) d_X_decide_81 rfl rfl ?_
  refine r_aload (x := some (fe e F)) (pc2 := 85) d_X_decide_83 rfl rfl ?_
  refine q_getI (x := nI nNF) (pc2 := 88) d_X_decide_85 rfl k_X_280 (by decide) (sh_fe0 hS he hF12b) ((congrFun hj0 _).trans (x5F.trans a5F)) ?_
  refine q_icmp_ge (tgt := 146) (A := ((n : Nat) : Int)) (B := ((nNF : Nat) : Int)) (pc2 := 91) d_X_decide_88 rfl rfl (nI_toInt (by omega)) (nI_toInt (by omega)) (fun c1 => ?_) (fun c1 => ?_)
  · have hfd : fst1 (fun n => decide ((AN (TRK tK tF tC tS) G p (ndF G F n)).1 ≠ G (174 + 84 * F + (14 + 2 * n + 1)))) (G (174 + 84 * F + 5)).toInt.toNat = none := fst1_none (fun j hj => v6_ j (by omega))
    rw [hfd] at hno; dsimp only at hno
    have hpt2 : pth G (AN (TRK tK tF tC tS) G p) 12 F l = l2 ++ [F] := by
      rw [hpt (by rw [hno]; exact wo2_r), v4_, show (G (174 + 84 * F + 5)).toInt.toNat - n = 0 by omega]; rfl
    have hl2n : (l2 ++ [F]).length ≤ nF := nodup_len nF (l2 ++ [F]) (by rw [List.nodup_append]; exact ⟨v2_, by simp, fun a ha b hb e => v5_ (by rw [List.mem_singleton] at hb; rw [← hb, ← e]; exact ha)⟩) (fun x hx => by
      rcases List.mem_append.mp hx with q | q
      · exact v3_ x q
      · rw [List.mem_singleton.mp q]; exact hF)
    rw [List.length_append, List.length_singleton] at hl2n
    refine r_aload (x := some (fe e F)) (pc2 := 148) d_X_decide_146 rfl rfl ?_
    refine r_iload_n (pc2 := 149) d_X_decide_148 rfl rfl ?_
    refine r_aload_n (x := some (dk e)) (pc2 := 150) d_X_decide_149 rfl rfl ?_
    refine q_getR (x := some (dk e + 1)) (pc2 := 153) d_X_decide_150 rfl k_X_179 rfl ((sh_dks hS he).1) ((rf_dk hR he).1) ?_
    refine r_aload_n (x := some A) (pc2 := 154) d_X_decide_153 rfl rfl ?_
    refine r_iload_n (pc2 := 155) d_X_decide_154 rfl rfl ?_
    refine r_calls (M2 := mi_X_decideAlone) (pc2 := 158) d_X_decide_155 rfl k_X_459 cm_X_decideAlone cs_X_decideAlone rfl rfl (Nat.le_of_ble_eq_true rfl) (c_X_decideAlone hS hR hV hV2 hnt6 he hW hD hA hp hF v5_ (by omega) (fun x hx => by have := v3_ x hx; omega) v0_ v1_ hno (d := d - 1) (by omega)) (d2 := d - 1) (by omega) (Nat.le_of_eq (Nat.zero_add _)) (Nat.le_of_eq (Nat.zero_add _)) (fun r2 h2 hq2 => ?_)
    obtain ⟨rfl, K, rfl, hK1, hK2⟩ := hq2
    change Run _ _ _ _ _ _ [] _ _
    refine Run.ret none d_X_decide_158 rfl ?_
    exact ⟨rfl, K, rfl, hK1, by rw [hpt2]; exact hK2⟩
  · obtain ⟨⟨n1, n2⟩, n3, n4⟩ := wNF n (by omega)
    obtain ⟨ot, ho, ho2⟩ : ∃ ot : Nat, G (174 + 84 * F + (14 + 2 * n)) = nI ot ∧ (G (174 + 84 * F + (14 + 2 * n))).toInt = (ot : Int) := ⟨(G (174 + 84 * F + (14 + 2 * n))).toInt.toNat, eq_nI (by omega), by omega⟩
    rw [ho2] at n1 n2
    have hnd : ndF G F n = ot := by unfold ndF; rw [ho2, Int.toNat_natCast]
    obtain ⟨hr1, hr2⟩ := (hrk F hF).2 n (by omega)
    rw [hnd] at hr1 hr2
    refine r_aload (x := some (fe e F)) (pc2 := 93) d_X_decide_91 rfl rfl ?_
    refine q_getR (x := some (fe e F + 2)) (pc2 := 96) d_X_decide_93 rfl k_X_453 rfl (sh_fe0 hS he hF12b) (rf_fe_6 hR he (show F < 12 by omega)) ?_
    refine r_iload (pc2 := 98) d_X_decide_96 rfl rfl ?_
    refine q_iaload (q := n) (x := nI ot) (pc2 := 99) d_X_decide_98 rfl (sh_fe2 hS he (show F < 12 by omega)) (nI_toInt (by omega)) (by omega) ((congrFun hj5 _).trans ((xnF n (by unfold nNof; omega)).1.trans ho)) ?_
    refine r_istore (pc2 := 101) d_X_decide_99 rfl (Nat.le_of_ble_eq_true rfl) ?_
    refine r_aload_n (x := some (dk e)) (pc2 := 102) d_X_decide_101 rfl rfl ?_
    refine r_aload_n (x := some A) (pc2 := 103) d_X_decide_102 rfl rfl ?_
    refine r_iload_n (pc2 := 104) d_X_decide_103 rfl rfl ?_
    refine r_iload (pc2 := 106) d_X_decide_104 rfl rfl ?_
    refine r_iload (pc2 := 108) d_X_decide_106 rfl rfl ?_
    refine r_iconst (v := nI 1) (pc2 := 109) d_X_decide_108 rfl (by decide) ?_
    refine q_iaddN (pc2 := 110) d_X_decide_109 rfl ?_
    refine r_calls (M2 := mi_X_decide) (pc2 := 113) d_X_decide_110 rfl k_X_432 cm_X_decide cs_X_decide rfl rfl (Nat.le_of_ble_eq_true rfl) (ihD ot (by omega) (by omega) l2 J v0_ v1_ v2_ v3_ (dp + 1) (d - 1) (by omega) (by omega)) (d2 := d - 1) (by omega) (Nat.le_of_eq (Nat.zero_add _)) (Nat.le_of_eq (Nat.zero_add _)) (fun r2 h2 hq2 => ?_)
    obtain ⟨rfl, J2, rfl, hJ2, hAS2⟩ := hq2
    change Run _ _ _ _ _ _ [] _ _
    have hj0b : J2 (fe e F) = I (fe e F) := hJ2.row (by omega) (by rw [sh_fe0 hS he hF12b]; decide)
    have hj1b : J2 (fe e F + 4) = I (fe e F + 4) := hJ2.row (by omega) (by rw [sh_fe4 hS he hF12b]; show 12 ≠ 14; decide)
    have hj2b : J2 (fe e F + 5) = I (fe e F + 5) := hJ2.row (by omega) (by rw [sh_fe5 hS he hF12b]; show 12 ≠ 14; decide)
    have hj3b : J2 (dk e + 2) = I (dk e + 2) := hJ2.row (by omega) (by rw [(sh_dks hS he).2.2.1]; show 12 ≠ 14; decide)
    have hj4b : J2 (dk e + 3) = I (dk e + 3) := hJ2.row (by omega) (by rw [(sh_dks hS he).2.2.2.1]; show 12 ≠ 14; decide)
    have hj5b : J2 (fe e F + 2) = I (fe e F + 2) := hJ2.row (by omega) (by rw [sh_fe2 hS he hF12b]; show 12 ≠ 14; decide)
    have hj6b : J2 (fe e F + 3) = I (fe e F + 3) := hJ2.row (by omega) (by rw [sh_fe3 hS he hF12b]; show 12 ≠ 14; decide)
    have hpi := pth_inv (A := AN (TRK tK tF tC tS) G p) hrk (rk ot) ot rfl (by omega) 12 (by have := (hrk ot (by omega)).1; omega) l2 v2_ v3_
    have hgot := hAS2.2.2.2 ot hpi.2
    obtain ⟨l3, hl3⟩ : ∃ l3, l3 = pth G (AN (TRK tK tF tC tS) G p) 12 ot l2 := ⟨_, rfl⟩
    rw [← hl3] at hAS2 hpi
    have hF3 : F ∉ l3 := fun q => by
      rcases hpi.1.2.2.2 F q with z | z
      · exact v5_ z
      · omega
    have hl3n : (l3 ++ [F]).length ≤ nF := nodup_len nF (l3 ++ [F]) (by rw [List.nodup_append]; exact ⟨hpi.1.1, by simp, fun a ha b hb e => hF3 (by rw [List.mem_singleton] at hb; rw [← hb, ← e]; exact ha)⟩) (fun x hx => by
      rcases List.mem_append.mp hx with q | q
      · exact hpi.1.2.1 x q
      · rw [List.mem_singleton.mp q]; exact hF)
    rw [List.length_append, List.length_singleton] at hl3n
    refine r_aload_n (x := some A) (pc2 := 114) d_X_decide_113 rfl rfl ?_
    refine r_iload (pc2 := 116) d_X_decide_114 rfl rfl ?_
    refine q_callv (M2 := mi_An_variantOf) (pc2 := 119) d_X_decide_116 rfl k_X_436 cm_An_variantOf cv_An_variantOf ((an_sh hS hA).1) (by decide) rfl rfl rfl (Nat.le_of_ble_eq_true rfl) (c_An_variantOf (J := J2) hS hR hA (F := ot) (by omega) (hgot.1)) (d2 := d - 1) (by omega) (Nat.le_of_eq (Nat.zero_add _)) (Nat.le_of_eq (Nat.zero_add _)) ?_
    refine r_aload (x := some (fe e F)) (pc2 := 121) d_X_decide_119 rfl rfl ?_
    refine q_getR (x := some (fe e F + 3)) (pc2 := 124) d_X_decide_121 rfl k_X_456 rfl (sh_fe0 hS he hF12b) (rf_fe_7 hR he (show F < 12 by omega)) ?_
    refine r_iload (pc2 := 126) d_X_decide_124 rfl rfl ?_
    refine q_iaload (q := n) (x := G (174 + 84 * F + (14 + 2 * n + 1))) (pc2 := 127) d_X_decide_126 rfl (sh_fe3 hS he (show F < 12 by omega)) (nI_toInt (by omega)) (by omega) ((congrFun hj6b _).trans ((xnF n (by unfold nNof; omega)).2)) ?_
    refine q_icmp_eq (tgt := 140) (A := ((AN (TRK tK tF tC tS) G p ot).1).toInt) (B := (G (174 + 84 * F + (14 + 2 * n + 1))).toInt) (pc2 := 130) d_X_decide_127 rfl rfl (rfl) (rfl) (fun c2 => ?_) (fun c2 => ?_)
    · refine q_iinc (b := 1) (pc2 := 143) d_X_decide_140 rfl rfl (by decide) (Nat.le_of_ble_eq_true rfl) ?_
      refine r_goto (tgt := 81) d_X_decide_143 rfl ?_
      refine Run.sub (l2 := [(0, .ref (dk e)), (1, .ref A), (2, .int (nI p)), (3, .int (nI F)), (4, .int (nI dp)), (5, .ref (fe e F)), (6, .int (nI (n + 1)))]) ⟨rfl, rfl, rfl, rfl, rfl, rfl, rfl, trivial⟩ ?_
      exact ih_ ((G (174 + 84 * F + 5)).toInt.toNat - (n + 1)) (by omega) (n + 1) J2 l3 rfl (hJ2) (hAS2) (hpi.1.1) (hpi.1.2.1) (by
        rw [v4_, show (G (174 + 84 * F + 5)).toInt.toNat - n = ((G (174 + 84 * F + 5)).toInt.toNat - (n + 1)) + 1 by omega, pthN, if_neg (by unfold nStop; rw [hnd]; simp only [decide_eq_true_eq]; exact fun q => q (Int32.toInt_inj.mp c2)), hnd, ← hl3]) (hF3) (fun j hj => by
        rcases Nat.lt_or_ge j n with q | q
        · exact v6_ j q
        · rw [show j = n by omega]
          refine decide_eq_false (fun z => z ?_)
          rw [hnd]; exact Int32.toInt_inj.mp c2) (by omega)
    · have hfd : fst1 (fun n => decide ((AN (TRK tK tF tC tS) G p (ndF G F n)).1 ≠ G (174 + 84 * F + (14 + 2 * n + 1)))) (G (174 + 84 * F + 5)).toInt.toNat = some n := fst1_some (i := n) v6_ (decide_eq_true (by rw [hnd]; exact fun q => c2 (congrArg Int32.toInt q))) (by omega)
      rw [hfd] at hno; dsimp only at hno; rw [hnd] at hno
      have hpt2 : pth G (AN (TRK tK tF tC tS) G p) 12 F l = l3 ++ [F] := by
        rw [hpt (by rw [hno]; show 2 < (3 : Int32).toInt; decide), v4_, show (G (174 + 84 * F + 5)).toInt.toNat - n = ((G (174 + 84 * F + 5)).toInt.toNat - (n + 1)) + 1 by omega, pthN, if_pos (by unfold nStop; rw [hnd]; simp only [decide_eq_true_eq]; exact fun q => c2 (congrArg Int32.toInt q)), hnd, hl3]
      refine r_aload_n (x := some A) (pc2 := 131) d_X_decide_130 rfl rfl ?_
      refine r_iload_n (pc2 := 132) d_X_decide_131 rfl rfl ?_
      refine r_iconst (v := nI 0) (pc2 := 133) d_X_decide_132 rfl (by decide) ?_
      refine r_iconst (v := nI 3) (pc2 := 134) d_X_decide_133 rfl (by decide) ?_
      refine r_iload (pc2 := 136) d_X_decide_134 rfl rfl ?_
      refine r_callv (M2 := mi_An_put) (pc2 := 139) d_X_decide_136 rfl k_X_451 cm_An_put cv_An_put ((an_sh hS hA).1) (by decide) rfl rfl rfl (Nat.le_of_ble_eq_true rfl) (c_An_put (I := I) (J := J2) (v := nI 0) (b := nI 3) (c := nI ot) hS hR hA hJ2 hAS2 (F := F) (by omega) hF3 (by omega) (fun x hx => by have := hpi.1.2.1 x hx; omega) (by rw [hno]; rfl)) (d2 := d - 1) (by omega) (Nat.le_of_eq (Nat.zero_add _)) (Nat.le_of_eq (Nat.zero_add _)) (fun r2 h2 hq2 => ?_)
      obtain ⟨rfl, K, rfl, hK1, hK2⟩ := hq2
      change Run _ _ _ _ _ _ [] _ _
      refine Run.ret none d_X_decide_139 rfl ?_
      exact ⟨rfl, K, rfl, hK1, by rw [hpt2]; exact hK2⟩
