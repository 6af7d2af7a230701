/-! THE CLASS: decide -/
theorem c_X_decide1 {d : Nat} {I : Nat → Nat → Int32} {R : Nat → Nat → Option Nat} {L : Nat → Nat → Int64} {sh : Nat → Nat × Nat} {N : Nat} (hS : ShOK sh) (hR : RfOK R) {tK tF tC tS : Nat → Int32} {nt : Nat} (hV : TV tK tF tC nt) (hV2 : TV2 tK tF tC tS nt) (hnt6 : nt ≤ 1000000) {G : Nat → Int32} {nP nF nS e : Nat} (he : e < 3) (hW : WFA G nP nF nt) (hD : DR tK tF tC tS I R sh nt e G nP nF nS) {rk : Nat → Nat} (hrk : RK G nF rk) {A : Nat} (hA : A = 718 ∨ A = 723) {p : Nat} (hp : p < nP) {F : Nat} (hF : F < nF) (ihD : ∀ o, o < nF → rk o < rk F → ∀ (l : List Nat) (J : Nat → Nat → Int32), FrN sh A I J → AS (AN (TRK tK tF tC tS) G p) A l J → l.Nodup → (∀ x ∈ l, x < nF) → ∀ dp d, dp + rk o < 12 → 2 * rk o + 10 ≤ d → Mt mi_X_decide d 0 0 [.ref (dk e), .ref A, .int (nI p), .int (nI o), .int (nI dp)] (J, R, L, sh, N) (fun r h2 => r = none ∧ ∃ K, h2 = (K, R, L, sh, N) ∧ FrN sh A I K ∧ AS (AN (TRK tK tF tC tS) G p) A (pth G (AN (TRK tK tF tC tS) G p) 12 o l) K)) {l : List Nat} {J : Nat → Nat → Int32} (hJ : FrN sh A I J) (hAS : AS (AN (TRK tK tF tC tS) G p) A l J) (hnd : l.Nodup) (hlt : ∀ x ∈ l, x < nF) {dp : Nat} (hdp : dp + rk F < 12) (hd : 2 * rk F + 10 ≤ d) : Mt mi_X_decide d 0 0 [.ref (dk e), .ref A, .int (nI p), .int (nI F), .int (nI dp)] (J, R, L, sh, N) (fun r h2 => r = none ∧ ∃ K, h2 = (K, R, L, sh, N) ∧ FrN sh A I K ∧ AS (AN (TRK tK tF tC tS) G p) A (pth G (AN (TRK tK tF tC tS) G p) 12 F l) K) := by
  obtain ⟨hPc, hP24, hFc, hF12, hWF, hWP⟩ := id hW
  have hF12b : F < 12 := by omega
  have hfl := fe_lt he hF12b
  refine Mt.of pn_X (Nat.le_of_ble_eq_true rfl) ?_
  show Run mi_X_decide d 0 0 0 [(0, .ref (dk e)), (1, .ref A), (2, .int (nI p)), (3, .int (nI F)), (4, .int (nI dp))] [] (J, R, L, sh, N) _
  refine r_iload (pc2 := 2) d_X_decide_0 rfl rfl ?_
  refine r_bipush (v := nI 12) (pc2 := 4) d_X_decide_2 rfl (by decide) ?_
  refine q_icmp_ge (tgt := 25) (A := ((dp : Nat) : Int)) (B := (12 : Int)) (pc2 := 7) d_X_decide_4 rfl rfl (nI_toInt (by omega)) (nI_toInt (by omega)) (fun c1 => ?_) (fun c1 => ?_)
  · refine Run.ret none d_X_decide_25 rfl ?_
    first | (exfalso; omega) | exact ⟨rfl, J, rfl, hJ, by rw [pth_in ((hAS.2.1 F hF12b).mp c1)]; exact hAS⟩
  · refine r_iload_n (pc2 := 8) d_X_decide_7 rfl rfl ?_
    refine q_if_lt (tgt := 25) (A := ((F : Nat) : Int)) (pc2 := 11) d_X_decide_8 rfl rfl (nI_toInt (by omega)) (fun c2 => ?_) (fun c2 => ?_)
    · exfalso; omega
    refine r_iload_n (pc2 := 12) d_X_decide_11 rfl rfl ?_
    refine r_bipush (v := nI 12) (pc2 := 14) d_X_decide_12 rfl (by decide) ?_
    refine q_icmp_ge (tgt := 25) (A := ((F : Nat) : Int)) (B := (12 : Int)) (pc2 := 17) d_X_decide_14 rfl rfl (nI_toInt (by omega)) (nI_toInt (by omega)) (fun c3 => ?_) (fun c3 => ?_)
    · refine Run.ret none d_X_decide_25 rfl ?_
      first | (exfalso; omega) | exact ⟨rfl, J, rfl, hJ, by rw [pth_in ((hAS.2.1 F hF12b).mp c3)]; exact hAS⟩
    · refine r_aload_n (x := some A) (pc2 := 18) d_X_decide_17 rfl rfl ?_
      refine r_iload_n (pc2 := 19) d_X_decide_18 rfl rfl ?_
      refine q_callv (M2 := mi_An_knows) (pc2 := 22) d_X_decide_19 rfl k_X_448 cm_An_knows cv_An_knows ((an_sh hS hA).1) (by decide) rfl rfl rfl (Nat.le_of_ble_eq_true rfl) (c_An_knows (J := J) hS hR hA rfl (F := F) (by omega) (by omega)) (d2 := d - 1) (by omega) (Nat.le_of_eq (Nat.zero_add _)) (Nat.le_of_eq (Nat.zero_add _)) ?_
      refine q_bif_eq (tgt := 26) (pc2 := 25) d_X_decide_22 rfl rfl (fun c4 => ?_) (fun c4 => ?_)
      · have hnot : F ∉ l := fun q => by
          have hb := (hAS.2.1 F hF12b).mpr q
          exact absurd hb c4
        have hfu := pth_12 hrk (A := AN (TRK tK tF tC tS) G p) hF hnot
        have hln : (l ++ [F]).length ≤ nF := nodup_len nF (l ++ [F]) (by rw [List.nodup_append]; exact ⟨hnd, by simp, fun a ha b hb e => hnot (by rw [List.mem_singleton] at hb; rw [← hb, ← e]; exact ha)⟩) (fun x hx => by
          rcases List.mem_append.mp hx with q | q
          · exact hlt x q
          · rw [List.mem_singleton.mp q]; exact hF)
        rw [List.length_append, List.length_singleton] at hln
        have hAn : AN (TRK tK tF tC tS) G p F = wo1 G (fun t => TRK tK tF tC tS (G (6 + 2 * p)) (G (6 + 2 * p + 1)).toInt.toNat t) (G (6 + 2 * p)) p (fun o => (AN (TRK tK tF tC tS) G p o).1) F := ans_eq hrk hF
        unfold wo1 at hAn
        obtain ⟨tpF, klF, skF, fbF, nRF, nNF, nOF, frF, toF, ⟨a0F, b0F, cc0F, dd0F⟩, ⟨a1F, b1F, cc1F, dd1F⟩, ⟨a2F, b2F, cc2F, dd2F⟩, ⟨a3F, b3F, cc3F, dd3F⟩, ⟨a4F, b4F, cc4F, dd4F⟩, ⟨a5F, b5F, cc5F, dd5F⟩, ⟨a6F, b6F, cc6F, dd6F⟩, ⟨a8F, b8F, cc8F, dd8F⟩, ⟨a9F, b9F, cc9F, dd9F⟩⟩ := wfn (hWF F (by omega))
        obtain ⟨-, -, -, -, -, -, -, w7F, -, -, wNF, wRF, wKF, wOF⟩ := hWF F (by omega)
        obtain ⟨⟨x0F, x1F, x2F, x3F, x4F, x5F, x6F, x7F, x8F⟩, xnF, xoF, xkF, xcF, xrF⟩ := hD.2.2.2.1 F (by omega)
        have hj0 : J (fe e F) = I (fe e F) := hJ.row (by omega) (by rw [sh_fe0 hS he hF12b]; decide)
        have hj1 : J (fe e F + 4) = I (fe e F + 4) := hJ.row (by omega) (by rw [sh_fe4 hS he hF12b]; show 12 ≠ 14; decide)
        have hj2 : J (fe e F + 5) = I (fe e F + 5) := hJ.row (by omega) (by rw [sh_fe5 hS he hF12b]; show 12 ≠ 14; decide)
        have hj3 : J (dk e + 2) = I (dk e + 2) := hJ.row (by omega) (by rw [(sh_dks hS he).2.2.1]; show 12 ≠ 14; decide)
        have hj4 : J (dk e + 3) = I (dk e + 3) := hJ.row (by omega) (by rw [(sh_dks hS he).2.2.2.1]; show 12 ≠ 14; decide)
        have hj5 : J (fe e F + 2) = I (fe e F + 2) := hJ.row (by omega) (by rw [sh_fe2 hS he hF12b]; show 12 ≠ 14; decide)
        have hj6 : J (fe e F + 3) = I (fe e F + 3) := hJ.row (by omega) (by rw [sh_fe3 hS he hF12b]; show 12 ≠ 14; decide)
        refine r_aload_n (x := some (dk e)) (pc2 := 27) d_X_decide_26 rfl rfl ?_
        refine q_getR (x := some (dk e + 4)) (pc2 := 30) d_X_decide_27 rfl k_X_211 rfl ((sh_dks hS he).1) ((rf_dk hR he).2.1) ?_
        refine r_iload_n (pc2 := 31) d_X_decide_30 rfl rfl ?_
        refine q_aaload (q := F) (x := some (fe e F)) (pc2 := 32) d_X_decide_31 rfl ((sh_dks hS he).2.2.2.2.1) (by decide) (by decide) (nI_toInt (by omega)) (by omega) (rf_fe hR he (show F < 12 by omega)) ?_
        refine r_astore (x := some (fe e F)) (pc2 := 34) d_X_decide_32 rfl (Nat.le_of_ble_eq_true rfl) ?_
        refine r_aload (x := some (fe e F)) (pc2 := 36) d_X_decide_34 rfl rfl ?_
        refine q_getR (x := some (fe e F + 4)) (pc2 := 39) d_X_decide_36 rfl k_X_286 rfl (sh_fe0 hS he (show F < 12 by omega)) (rf_fe_9 hR he (show F < 12 by omega)) ?_
        refine r_iload_n (pc2 := 40) d_X_decide_39 rfl rfl ?_
        refine q_iaload (q := p) (x := ovV G F (G (6 + 2 * p))) (pc2 := 41) d_X_decide_40 rfl (sh_fe4 hS he (show F < 12 by omega)) (nI_toInt (by omega)) (by omega) ((congrFun hj1 _).trans ((xoF p (by omega)).trans (if_pos (by omega)))) ?_
        cases hob : oB G F (G (174 + 84 * F + 6)).toInt.toNat (G (6 + 2 * p)) with
        | none =>
          rw [hob] at hAn; dsimp only at hAn
          refine q_top (y := (-1 : Int32)) (ovV_none hob) ?_
          refine r_iconst (v := (-1 : Int32)) (pc2 := 42) d_X_decide_41 rfl (by decide) ?_
          refine q_icmp_eq (tgt := 60) (A := (-1 : Int)) (B := (-1 : Int)) (pc2 := 45) d_X_decide_42 rfl rfl (by decide) (by decide) (fun c5 => ?_) (fun c5 => ?_)
          rotate_left
          · exfalso; omega
          refine r_aload (x := some (fe e F)) (pc2 := 62) d_X_decide_60 rfl rfl ?_
          refine q_getI (x := nI klF) (pc2 := 65) d_X_decide_62 rfl k_X_223 (by decide) (sh_fe0 hS he (show F < 12 by omega)) ((congrFun hj0 _).trans (x1F.trans a1F)) ?_
          refine r_iconst (v := nI 1) (pc2 := 66) d_X_decide_65 rfl (by decide) ?_
          refine q_icmp_ne (tgt := 78) (A := ((klF : Nat) : Int)) (B := (1 : Int)) (pc2 := 69) d_X_decide_66 rfl rfl (nI_toInt (by omega)) (nI_toInt (by omega)) (fun c6 => ?_) (fun c6 => ?_)
          · refine r_iconst (v := nI 0) (pc2 := 79) d_X_decide_78 rfl (by decide) ?_
            refine r_istore (pc2 := 81) d_X_decide_79 rfl (Nat.le_of_ble_eq_true rfl) ?_
            rw [if_neg (by omega)] at hAn
            refine Run.sub (l2 := [(0, .ref (dk e)), (1, .ref A), (2, .int (nI p)), (3, .int (nI F)), (4, .int (nI dp)), (5, .ref (fe e F)), (6, .int (nI 0))]) ⟨rfl, rfl, rfl, rfl, rfl, rfl, rfl, trivial⟩ ?_
            exact l_X_decide hS hR hV hV2 hnt6 he hW hD hrk hA hp hF ihD hdp (fun h2r => by rw [hfu, if_pos h2r]) hAn hd _ 0 J l rfl hJ hAS hnd hlt rfl hnot (fun j hj => absurd hj (by omega)) (Nat.zero_le _)
          · rw [if_pos (by omega)] at hAn
            have hpt2 : pth G (AN (TRK tK tF tC tS) G p) 12 F l = l ++ [F] := by rw [hfu, if_neg (by rw [hAn]; show ¬ 2 < (2 : Int32).toInt; decide)]
            refine r_aload_n (x := some A) (pc2 := 70) d_X_decide_69 rfl rfl ?_
            refine r_iload_n (pc2 := 71) d_X_decide_70 rfl rfl ?_
            refine r_iconst (v := nI 0) (pc2 := 72) d_X_decide_71 rfl (by decide) ?_
            refine r_iconst (v := nI 2) (pc2 := 73) d_X_decide_72 rfl (by decide) ?_
            refine r_iconst (v := (-1 : Int32)) (pc2 := 74) d_X_decide_73 rfl (by decide) ?_
            refine r_callv (M2 := mi_An_put) (pc2 := 77) d_X_decide_74 rfl k_X_451 cm_An_put cv_An_put ((an_sh hS hA).1) (by decide) rfl rfl rfl (Nat.le_of_ble_eq_true rfl) (c_An_put (I := I) (J := J) (v := nI 0) (b := nI 2) (c := (-1 : Int32)) hS hR hA hJ hAS (F := F) (by omega) hnot (by omega) (fun x hx => by have := hlt x hx; omega) (by rw [hAn]; rfl)) (d2 := d - 1) (by omega) (Nat.le_of_eq (Nat.zero_add _)) (Nat.le_of_eq (Nat.zero_add _)) (fun r2 h2 hq2 => ?_)
            obtain ⟨rfl, K, rfl, hK1, hK2⟩ := hq2
            change Run _ _ _ _ _ _ [] _ _
            refine Run.ret none d_X_decide_77 rfl ?_
            exact ⟨rfl, K, rfl, hK1, by rw [hpt2]; exact hK2⟩
        | some ko =>
          rw [hob] at hAn; dsimp only at hAn
          obtain ⟨hk1, hk2, -⟩ := fst1_spec (show fst1 _ _ = some ko from hob)
          have hko := wOF ko (by rw [b6F] at hk1 ⊢; omega)
          refine q_top (y := G (174 + 84 * F + (20 + 2 * ko + 1))) (ovV_some hob) ?_
          refine r_iconst (v := (-1 : Int32)) (pc2 := 42) d_X_decide_41 rfl (by decide) ?_
          refine q_icmp_eq (tgt := 60) (A := (G (174 + 84 * F + (20 + 2 * ko + 1))).toInt) (B := (-1 : Int)) (pc2 := 45) d_X_decide_42 rfl rfl (rfl) (by decide) (fun c7 => ?_) (fun c7 => ?_)
          · exfalso; omega
          · have hpt2 : pth G (AN (TRK tK tF tC tS) G p) 12 F l = l ++ [F] := by rw [hfu, if_neg (by rw [hAn]; show ¬ 2 < (1 : Int32).toInt; decide)]
            refine r_aload_n (x := some A) (pc2 := 46) d_X_decide_45 rfl rfl ?_
            refine r_iload_n (pc2 := 47) d_X_decide_46 rfl rfl ?_
            refine r_aload (x := some (fe e F)) (pc2 := 49) d_X_decide_47 rfl rfl ?_
            refine q_getR (x := some (fe e F + 4)) (pc2 := 52) d_X_decide_49 rfl k_X_286 rfl (sh_fe0 hS he (show F < 12 by omega)) (rf_fe_9 hR he (show F < 12 by omega)) ?_
            refine r_iload_n (pc2 := 53) d_X_decide_52 rfl rfl ?_
            refine q_iaload (q := p) (x := ovV G F (G (6 + 2 * p))) (pc2 := 54) d_X_decide_53 rfl (sh_fe4 hS he (show F < 12 by omega)) (nI_toInt (by omega)) (by omega) ((congrFun hj1 _).trans ((xoF p (by omega)).trans (if_pos (by omega)))) ?_
            refine r_iconst (v := nI 1) (pc2 := 55) d_X_decide_54 rfl (by decide) ?_
            refine r_iconst (v := (-1 : Int32)) (pc2 := 56) d_X_decide_55 rfl (by decide) ?_
            refine r_callv (M2 := mi_An_put) (pc2 := 59) d_X_decide_56 rfl k_X_451 cm_An_put cv_An_put ((an_sh hS hA).1) (by decide) rfl rfl rfl (Nat.le_of_ble_eq_true rfl) (c_An_put (I := I) (J := J) (v := ovV G F (G (6 + 2 * p))) (b := nI 1) (c := (-1 : Int32)) hS hR hA hJ hAS (F := F) (by omega) hnot (by omega) (fun x hx => by have := hlt x hx; omega) (by rw [hAn, ovV_some hob]; rfl)) (d2 := d - 1) (by omega) (Nat.le_of_eq (Nat.zero_add _)) (Nat.le_of_eq (Nat.zero_add _)) (fun r2 h2 hq2 => ?_)
            obtain ⟨rfl, K, rfl, hK1, hK2⟩ := hq2
            change Run _ _ _ _ _ _ [] _ _
            refine Run.ret none d_X_decide_59 rfl ?_
            exact ⟨rfl, K, rfl, hK1, by rw [hpt2]; exact hK2⟩
      · refine Run.ret none d_X_decide_25 rfl ?_
        first | (exfalso; omega) | exact ⟨rfl, J, rfl, hJ, by rw [pth_in ((hAS.2.1 F hF12b).mp c4)]; exact hAS⟩
theorem c_X_decide {I : Nat → Nat → Int32} {R : Nat → Nat → Option Nat} {L : Nat → Nat → Int64} {sh : Nat → Nat × Nat} {N : Nat} (hS : ShOK sh) (hR : RfOK R) {tK tF tC tS : Nat → Int32} {nt : Nat} (hV : TV tK tF tC nt) (hV2 : TV2 tK tF tC tS nt) (hnt6 : nt ≤ 1000000) {G : Nat → Int32} {nP nF nS e : Nat} (he : e < 3) (hW : WFA G nP nF nt) (hD : DR tK tF tC tS I R sh nt e G nP nF nS) {rk : Nat → Nat} (hrk : RK G nF rk) {A : Nat} (hA : A = 718 ∨ A = 723) {p : Nat} (hp : p < nP) : ∀ (k F : Nat), rk F = k → F < nF → ∀ (l : List Nat) (J : Nat → Nat → Int32), FrN sh A I J → AS (AN (TRK tK tF tC tS) G p) A l J → l.Nodup → (∀ x ∈ l, x < nF) → ∀ dp d, dp + rk F < 12 → 2 * rk F + 10 ≤ d → Mt mi_X_decide d 0 0 [.ref (dk e), .ref A, .int (nI p), .int (nI F), .int (nI dp)] (J, R, L, sh, N) (fun r h2 => r = none ∧ ∃ K, h2 = (K, R, L, sh, N) ∧ FrN sh A I K ∧ AS (AN (TRK tK tF tC tS) G p) A (pth G (AN (TRK tK tF tC tS) G p) 12 F l) K) := by
  intro k
  induction k using Nat.strongRecOn with | ind k ih => ?_
  intro F hk hF l J hJ hAS hnd hlt dp d hdp hd
  exact c_X_decide1 hS hR hV hV2 hnt6 he hW hD hrk hA hp hF (fun o ho hr l J h1 h2 h3 h4 dp d h5 h6 => ih (rk o) (by omega) o rfl ho l J h1 h2 h3 h4 dp d h5 h6) hJ hAS hnd hlt hdp hd
theorem c_X_answerOne {d : Nat} {I : Nat → Nat → Int32} {R : Nat → Nat → Option Nat} {L : Nat → Nat → Int64} {sh : Nat → Nat × Nat} {N : Nat} (hS : ShOK sh) (hR : RfOK R) {tK tF tC tS : Nat → Int32} {nt : Nat} (hV : TV tK tF tC nt) (hV2 : TV2 tK tF tC tS nt) (hnt6 : nt ≤ 1000000) {G : Nat → Int32} {nP nF nS : Nat} (hW : WFA G nP nF nt) (hD : DR tK tF tC tS I R sh nt 0 G nP nF nS) {rk : Nat → Nat} (hrk : RK G nF rk) {p : Nat} (hp : p < nP) {F : Nat} (hF : F < nF) {J : Nat → Nat → Int32} (hJ0 : FrN sh 718 I J) (hd : 40 ≤ d) : Mt mi_X_answerOne d 0 0 [.ref 0, .int (nI F), .int (nI p)] (J, R, L, sh, N) (fun r h2 => ∃ K, h2 = (K, R, L, sh, N) ∧ r = some (.int (AN (TRK tK tF tC tS) G p F).1) ∧ FrN sh 718 I K ∧ AS (AN (TRK tK tF tC tS) G p) 718 (pth G (AN (TRK tK tF tC tS) G p) 12 F []) K ∧ (pth G (AN (TRK tK tF tC tS) G p) 12 F []).Nodup ∧ (∀ x ∈ pth G (AN (TRK tK tF tC tS) G p) 12 F [], x < nF) ∧ F ∈ pth G (AN (TRK tK tF tC tS) G p) 12 F []) := by
  obtain ⟨hPc, hP24, hFc, hF12, hWF, hWP⟩ := id hW
  have hrF := (hrk F hF).1
  refine Mt.of pn_X (Nat.le_of_ble_eq_true rfl) ?_
  show Run mi_X_answerOne d 0 0 0 [(0, .ref 0), (1, .int (nI F)), (2, .int (nI p))] [] (J, R, L, sh, N) _
  refine r_aload_n (x := some 0) (pc2 := 1) d_X_answerOne_0 rfl rfl ?_
  refine q_getR (x := some 718) (pc2 := 4) d_X_answerOne_1 rfl k_X_29 rfl (sh_0 hS) (rf_0_4 hR) ?_
  refine r_callv (M2 := mi_An_begin) (pc2 := 7) d_X_answerOne_4 rfl k_X_429 cm_An_begin cv_An_begin (sh_718 hS) (by decide) rfl rfl rfl (Nat.le_of_ble_eq_true rfl) (c_An_begin (I := I) (An := AN (TRK tK tF tC tS) G p) hS hR (A := 718) (by decide) hJ0) (d2 := d - 1) (by omega) (Nat.le_of_eq (Nat.zero_add _)) (Nat.le_of_eq (Nat.zero_add _)) (fun r2 h2 hq2 => ?_)
  obtain ⟨rfl, K0, rfl, hK0, hA0⟩ := hq2
  change Run _ _ _ _ _ _ [] _ _
  refine r_aload_n (x := some 0) (pc2 := 8) d_X_answerOne_7 rfl rfl ?_
  refine q_getR (x := some 1) (pc2 := 11) d_X_answerOne_8 rfl k_X_12 rfl (sh_0 hS) (rf_0_0 hR) ?_
  refine r_aload_n (x := some 0) (pc2 := 12) d_X_answerOne_11 rfl rfl ?_
  refine q_getR (x := some 718) (pc2 := 15) d_X_answerOne_12 rfl k_X_29 rfl (sh_0 hS) (rf_0_4 hR) ?_
  refine r_iload_n (pc2 := 16) d_X_answerOne_15 rfl rfl ?_
  refine r_iload_n (pc2 := 17) d_X_answerOne_16 rfl rfl ?_
  refine r_iconst (v := nI 0) (pc2 := 18) d_X_answerOne_17 rfl (by decide) ?_
  refine r_calls (M2 := mi_X_decide) (pc2 := 21) d_X_answerOne_18 rfl k_X_432 cm_X_decide cs_X_decide rfl rfl (Nat.le_of_ble_eq_true rfl) (c_X_decide hS hR hV hV2 hnt6 (e := 0) (by decide) hW hD hrk (A := 718) (by decide) hp _ F rfl hF [] K0 hK0 hA0 List.nodup_nil (fun x hx => absurd hx List.not_mem_nil) 0 (d - 1) (by omega) (by omega)) (d2 := d - 1) (by omega) (Nat.le_of_eq (Nat.zero_add _)) (Nat.le_of_eq (Nat.zero_add _)) (fun r2 h2 hq2 => ?_)
  obtain ⟨rfl, K, rfl, hK1, hK2⟩ := hq2
  change Run _ _ _ _ _ _ [] _ _
  have hpi := pth_inv (A := AN (TRK tK tF tC tS) G p) hrk (rk F) F rfl hF 12 (hrk F hF).1 [] List.nodup_nil (fun x hx => absurd hx List.not_mem_nil)
  have hgot := hK2.2.2.2 F hpi.2
  refine r_aload_n (x := some 0) (pc2 := 22) d_X_answerOne_21 rfl rfl ?_
  refine q_getR (x := some 718) (pc2 := 25) d_X_answerOne_22 rfl k_X_29 rfl (sh_0 hS) (rf_0_4 hR) ?_
  refine r_iload_n (pc2 := 26) d_X_answerOne_25 rfl rfl ?_
  refine q_callv (M2 := mi_An_variantOf) (pc2 := 29) d_X_answerOne_26 rfl k_X_436 cm_An_variantOf cv_An_variantOf (sh_718 hS) (by decide) rfl rfl rfl (Nat.le_of_ble_eq_true rfl) (c_An_variantOf (J := K) hS hR (A := 718) (by decide) (F := F) (by omega) hgot.1) (d2 := d - 1) (by omega) (Nat.le_of_eq (Nat.zero_add _)) (Nat.le_of_eq (Nat.zero_add _)) ?_
  refine Run.ret (some (.int ((AN (TRK tK tF tC tS) G p F).1))) d_X_answerOne_29 ⟨_, rfl⟩ ?_
  exact ⟨K, rfl, rfl, hK1, hK2, hpi.1.1, hpi.1.2.1, hpi.2⟩
theorem c_X_answerInTrial {d : Nat} {I : Nat → Nat → Int32} {R : Nat → Nat → Option Nat} {L : Nat → Nat → Int64} {sh : Nat → Nat × Nat} {N : Nat} (hS : ShOK sh) (hR : RfOK R) {tK tF tC tS : Nat → Int32} {nt : Nat} (hV : TV tK tF tC nt) (hV2 : TV2 tK tF tC tS nt) (hnt6 : nt ≤ 1000000) {G : Nat → Int32} {nP nF nS : Nat} (hW : WFA G nP nF nt) (hD : DR tK tF tC tS I R sh nt 2 G nP nF nS) {rk : Nat → Nat} (hrk : RK G nF rk) {p : Nat} (hp : p < nP) {F : Nat} (hF : F < nF) {J : Nat → Nat → Int32} (hJ0 : FrN sh 723 I J) (hd : 40 ≤ d) : Mt mi_X_answerInTrial d 0 0 [.ref 0, .int (nI F), .int (nI p)] (J, R, L, sh, N) (fun r h2 => ∃ K, h2 = (K, R, L, sh, N) ∧ r = some (.int (AN (TRK tK tF tC tS) G p F).1) ∧ FrN sh 723 I K ∧ AS (AN (TRK tK tF tC tS) G p) 723 (pth G (AN (TRK tK tF tC tS) G p) 12 F []) K ∧ (pth G (AN (TRK tK tF tC tS) G p) 12 F []).Nodup ∧ (∀ x ∈ pth G (AN (TRK tK tF tC tS) G p) 12 F [], x < nF) ∧ F ∈ pth G (AN (TRK tK tF tC tS) G p) 12 F []) := by
  obtain ⟨hPc, hP24, hFc, hF12, hWF, hWP⟩ := id hW
  have hrF := (hrk F hF).1
  refine Mt.of pn_X (Nat.le_of_ble_eq_true rfl) ?_
  show Run mi_X_answerInTrial d 0 0 0 [(0, .ref 0), (1, .int (nI F)), (2, .int (nI p))] [] (J, R, L, sh, N) _
  refine r_aload_n (x := some 0) (pc2 := 1) d_X_answerInTrial_0 rfl rfl ?_
  refine q_getR (x := some 723) (pc2 := 4) d_X_answerInTrial_1 rfl k_X_33 rfl (sh_0 hS) (rf_0_5 hR) ?_
  refine r_callv (M2 := mi_An_begin) (pc2 := 7) d_X_answerInTrial_4 rfl k_X_429 cm_An_begin cv_An_begin (sh_723 hS) (by decide) rfl rfl rfl (Nat.le_of_ble_eq_true rfl) (c_An_begin (I := I) (An := AN (TRK tK tF tC tS) G p) hS hR (A := 723) (by decide) hJ0) (d2 := d - 1) (by omega) (Nat.le_of_eq (Nat.zero_add _)) (Nat.le_of_eq (Nat.zero_add _)) (fun r2 h2 hq2 => ?_)
  obtain ⟨rfl, K0, rfl, hK0, hA0⟩ := hq2
  change Run _ _ _ _ _ _ [] _ _
  refine r_aload_n (x := some 0) (pc2 := 8) d_X_answerInTrial_7 rfl rfl ?_
  refine q_getR (x := some 479) (pc2 := 11) d_X_answerInTrial_8 rfl k_X_19 rfl (sh_0 hS) (rf_0_2 hR) ?_
  refine r_aload_n (x := some 0) (pc2 := 12) d_X_answerInTrial_11 rfl rfl ?_
  refine q_getR (x := some 723) (pc2 := 15) d_X_answerInTrial_12 rfl k_X_33 rfl (sh_0 hS) (rf_0_5 hR) ?_
  refine r_iload_n (pc2 := 16) d_X_answerInTrial_15 rfl rfl ?_
  refine r_iload_n (pc2 := 17) d_X_answerInTrial_16 rfl rfl ?_
  refine r_iconst (v := nI 0) (pc2 := 18) d_X_answerInTrial_17 rfl (by decide) ?_
  refine r_calls (M2 := mi_X_decide) (pc2 := 21) d_X_answerInTrial_18 rfl k_X_432 cm_X_decide cs_X_decide rfl rfl (Nat.le_of_ble_eq_true rfl) (c_X_decide hS hR hV hV2 hnt6 (e := 2) (by decide) hW hD hrk (A := 723) (by decide) hp _ F rfl hF [] K0 hK0 hA0 List.nodup_nil (fun x hx => absurd hx List.not_mem_nil) 0 (d - 1) (by omega) (by omega)) (d2 := d - 1) (by omega) (Nat.le_of_eq (Nat.zero_add _)) (Nat.le_of_eq (Nat.zero_add _)) (fun r2 h2 hq2 => ?_)
  obtain ⟨rfl, K, rfl, hK1, hK2⟩ := hq2
  change Run _ _ _ _ _ _ [] _ _
  have hpi := pth_inv (A := AN (TRK tK tF tC tS) G p) hrk (rk F) F rfl hF 12 (hrk F hF).1 [] List.nodup_nil (fun x hx => absurd hx List.not_mem_nil)
  have hgot := hK2.2.2.2 F hpi.2
  refine r_aload_n (x := some 0) (pc2 := 22) d_X_answerInTrial_21 rfl rfl ?_
  refine q_getR (x := some 723) (pc2 := 25) d_X_answerInTrial_22 rfl k_X_33 rfl (sh_0 hS) (rf_0_5 hR) ?_
  refine r_iload_n (pc2 := 26) d_X_answerInTrial_25 rfl rfl ?_
  refine q_callv (M2 := mi_An_variantOf) (pc2 := 29) d_X_answerInTrial_26 rfl k_X_436 cm_An_variantOf cv_An_variantOf (sh_723 hS) (by decide) rfl rfl rfl (Nat.le_of_ble_eq_true rfl) (c_An_variantOf (J := K) hS hR (A := 723) (by decide) (F := F) (by omega) hgot.1) (d2 := d - 1) (by omega) (Nat.le_of_eq (Nat.zero_add _)) (Nat.le_of_eq (Nat.zero_add _)) ?_
  refine Run.ret (some (.int ((AN (TRK tK tF tC tS) G p F).1))) d_X_answerInTrial_29 ⟨_, rfl⟩ ?_
  exact ⟨K, rfl, rfl, hK1, hK2, hpi.1.1, hpi.1.2.1, hpi.2⟩
