/-! THE CLASS: shakes -/
theorem hiS_k : ∀ i, i < 63 → (hiS.getD i (99, 0)).1 ≠ 14 := by decide +kernel
theorem sh_n14 {sh : Nat → Nat × Nat} (hS : ShOK sh) {a : Nat} (h : a < 781) : (sh a).1 ≠ 14 := by
  rw [hS a h]
  unfold sh0
  by_cases h0 : a = 0
  · rw [if_pos h0]; decide
  · rw [if_neg h0]
    by_cases h1 : a < 718
    · rw [if_pos h1]; exact dkS_k _ (Nat.mod_lt _ (by decide))
    · rw [if_neg h1]; exact hiS_k _ (by omega)
theorem bits_orB {P Q : Nat → Bool} {n : Nat} (hn : n ≤ 32) : bits P n ||| bits Q n = bits (fun x => P x || Q x) n := by
  refine b_ext (fun i hi => ?_)
  rw [b_or, bt_bits hn hi, bt_bits hn hi, bt_bits hn hi]
  cases decide (i < n) <;> cases P i <;> cases Q i <;> rfl
theorem bits_no {n : Nat} : ∀ {P : Nat → Bool}, (∀ i, i < n → P i = false) → bits P n = nI 0 := by
  induction n with
  | zero => intro P _; rfl
  | succ n ih => intro P h; rw [bits_s, if_neg (by rw [h n (by omega)]; decide)]; exact ih (fun i hi => h i (by omega))
theorem l_X_changed {d : Nat} {J0 : Nat → Nat → Int32} {R : Nat → Nat → Option Nat} {L : Nat → Nat → Int64} {sh : Nat → Nat × Nat} {N : Nat} (hS : ShOK sh) (hR : RfOK R) {tK tF tC tS : Nat → Int32} {nt : Nat} (hV : TV tK tF tC nt) (hV2 : TV2 tK tF tC tS nt) (hnt6 : nt ≤ 1000000) {G G2 : Nat → Int32} {nP nF nS : Nat} (hW : WFA G nP nF nt) {rk : Nat → Nat} (hrk : RK G nF rk) (hW2 : WFA G2 nP nF nt) (hrk2 : RK G2 nF rk) {p : Nat} (hp : p < nP) (hD0 : DR tK tF tC tS J0 R sh nt 0 G nP nF nS) {P : Nat → Bool} (hP : ∀ F, P F = decide ((AN (TRK tK tF tC tS) G2 p F).1.toInt ≠ (AN (TRK tK tF tC tS) G p F).1.toInt)) {Q : Option Value → HS → Prop} (hq : ∀ K, FrX sh J0 K → DR tK tF tC tS K R sh nt 2 G2 nP nF nS → Q (some (.int (bits P nF))) (K, R, L, sh, N)) (hd : 50 ≤ d) : ∀ (n_ : Nat) (i : Nat) (J : Nat → Nat → Int32) (l : List Nat) (l2 : List Nat), nF - i = n_ → (FrX sh J0 J) → (DR tK tF tC tS J R sh nt 2 G2 nP nF nS) → (AS (AN (TRK tK tF tC tS) G p) 718 l J) → (l.Nodup) → (∀ x ∈ l, x < nF) → (AS (AN (TRK tK tF tC tS) G2 p) 723 l2 J) → (l2.Nodup) → (∀ x ∈ l2, x < nF) → (i ≤ nF) → Run mi_X_changedFeatures d 0 0 18 [(0, .ref 0), (1, .int (nI p)), (2, .int (bits P i)), (3, .int (nI i))] [] (J, R, L, sh, N) Q := by
  intro n_
  induction n_ using Nat.strongRecOn with | ind n_ ih_ => ?_
  intro i J l l2 hn_ v0_ v1_ v2_ v3_ v4_ v5_ v6_ v7_ v8_
  obtain ⟨hPc, hP24, hFc, hF12, hWF, hWP⟩ := id hW
  have hd0J := DR.x hS hW (by decide) hD0 v0_ FrXR.rf
  refine r_iload_n (pc2 := 19) d_X_changedFeatures_18 rfl rfl ?_
  refine r_aload_n (x := some 0) (pc2 := 20) d_X_changedFeatures_19 rfl rfl ?_
  refine q_getR (x := some 1) (pc2 := 23) d_X_changedFeatures_20 rfl k_X_12 rfl (sh_0 hS) (rf_0_0 hR) ?_
  refine q_getI (x := nI nF) (pc2 := 26) d_X_changedFeatures_23 rfl k_X_208 (by decide) (sh_1 hS) hd0J.1.2.1 ?_
  refine q_icmp_ge (tgt := 90) (A := ((i : Nat) : Int)) (B := ((nF : Nat) : Int)) (pc2 := 29) d_X_changedFeatures_26 rfl rfl (nI_toInt (by omega)) (nI_toInt (by omega)) (fun c1 => ?_) (fun c1 => ?_)
  · refine r_iload_n (pc2 := 91) d_X_changedFeatures_90 rfl rfl ?_
    refine Run.ret (some (.int (bits P i))) d_X_changedFeatures_91 ⟨_, rfl⟩ ?_
    rw [show i = nF by omega]; exact hq J v0_ v1_
  · refine r_aload_n (x := some 0) (pc2 := 30) d_X_changedFeatures_29 rfl rfl ?_
    refine q_getR (x := some 1) (pc2 := 33) d_X_changedFeatures_30 rfl k_X_12 rfl (sh_0 hS) (rf_0_0 hR) ?_
    refine r_aload_n (x := some 0) (pc2 := 34) d_X_changedFeatures_33 rfl rfl ?_
    refine q_getR (x := some 718) (pc2 := 37) d_X_changedFeatures_34 rfl k_X_29 rfl (sh_0 hS) (rf_0_4 hR) ?_
    refine r_iload_n (pc2 := 38) d_X_changedFeatures_37 rfl rfl ?_
    refine r_iload_n (pc2 := 39) d_X_changedFeatures_38 rfl rfl ?_
    refine r_iconst (v := nI 0) (pc2 := 40) d_X_changedFeatures_39 rfl (by decide) ?_
    have hri := (hrk i (by omega)).1
    have hri2 := (hrk2 i (by omega)).1
    have d0K2 := DR.x hS hW (by decide) hD0 v0_ FrXR.rf
    refine r_calls (M2 := mi_X_decide) (pc2 := 43) d_X_changedFeatures_40 rfl k_X_432 cm_X_decide cs_X_decide rfl rfl (Nat.le_of_ble_eq_true rfl) (c_X_decide (I := J) hS hR hV hV2 hnt6 (e := 0) (by decide) hW d0K2 hrk (A := 718) (by decide) hp _ i rfl (by omega) l J FrN.rf v2_ v3_ v4_ 0 (d - 1) (by omega) (by omega)) (d2 := d - 1) (by omega) (Nat.le_of_eq (Nat.zero_add _)) (Nat.le_of_eq (Nat.zero_add _)) (fun r2 h2 hq2 => ?_)
    obtain ⟨rfl, K2, rfl, hnK2, haK2⟩ := hq2
    change Run _ _ _ _ _ _ [] _ _
    have hpi0 := pth_inv (A := AN (TRK tK tF tC tS) G p) hrk (rk i) i rfl (by omega) 12 hri l v3_ v4_
    have hbK2 := AS.fr v5_ (fun a h1 h2 => hnK2.row (by omega) (sh_n14 hS (by omega)))
    have e2K2 := DR.n hS hW2 (by decide) (by decide) v1_ hnK2
    refine r_aload_n (x := some 0) (pc2 := 44) d_X_changedFeatures_43 rfl rfl ?_
    refine q_getR (x := some 479) (pc2 := 47) d_X_changedFeatures_44 rfl k_X_19 rfl (sh_0 hS) (rf_0_2 hR) ?_
    refine r_aload_n (x := some 0) (pc2 := 48) d_X_changedFeatures_47 rfl rfl ?_
    refine q_getR (x := some 723) (pc2 := 51) d_X_changedFeatures_48 rfl k_X_33 rfl (sh_0 hS) (rf_0_5 hR) ?_
    refine r_iload_n (pc2 := 52) d_X_changedFeatures_51 rfl rfl ?_
    refine r_iload_n (pc2 := 53) d_X_changedFeatures_52 rfl rfl ?_
    refine r_iconst (v := nI 0) (pc2 := 54) d_X_changedFeatures_53 rfl (by decide) ?_
    have d0K3 := DR.x hS hW (by decide) hD0 (FrX.tr v0_ (hnK2.x (by decide))) FrXR.rf
    refine r_calls (M2 := mi_X_decide) (pc2 := 57) d_X_changedFeatures_54 rfl k_X_432 cm_X_decide cs_X_decide rfl rfl (Nat.le_of_ble_eq_true rfl) (c_X_decide (I := K2) hS hR hV hV2 hnt6 (e := 2) (by decide) hW2 e2K2 hrk2 (A := 723) (by decide) hp _ i rfl (by omega) l2 K2 FrN.rf hbK2 v6_ v7_ 0 (d - 1) (by omega) (by omega)) (d2 := d - 1) (by omega) (Nat.le_of_eq (Nat.zero_add _)) (Nat.le_of_eq (Nat.zero_add _)) (fun r2 h2 hq2 => ?_)
    obtain ⟨rfl, K3, rfl, hnK3, haK3⟩ := hq2
    change Run _ _ _ _ _ _ [] _ _
    have hpi2 := pth_inv (A := AN (TRK tK tF tC tS) G2 p) hrk2 (rk i) i rfl (by omega) 12 hri2 l2 v6_ v7_
    have hbK3 := AS.fr haK2 (fun a h1 h2 => hnK3.row (by omega) (sh_n14 hS (by omega)))
    have e2K3 := DR.n hS hW2 (by decide) (by decide) e2K2 hnK3
    refine r_aload_n (x := some 0) (pc2 := 58) d_X_changedFeatures_57 rfl rfl ?_
    refine q_getR (x := some 718) (pc2 := 61) d_X_changedFeatures_58 rfl k_X_29 rfl (sh_0 hS) (rf_0_4 hR) ?_
    refine q_getR (x := some 719) (pc2 := 64) d_X_changedFeatures_61 rfl k_X_324 rfl (sh_718 hS) (rf_718_0 hR) ?_
    refine r_iload_n (pc2 := 65) d_X_changedFeatures_64 rfl rfl ?_
    refine q_iaload (q := i) (x := (AN (TRK tK tF tC tS) G p i).1) (pc2 := 66) d_X_changedFeatures_65 rfl (sh_719 hS) (nI_toInt (by omega)) (by omega) ((hbK3.2.2.2 i hpi0.2).1) ?_
    refine r_aload_n (x := some 0) (pc2 := 67) d_X_changedFeatures_66 rfl rfl ?_
    refine q_getR (x := some 723) (pc2 := 70) d_X_changedFeatures_67 rfl k_X_33 rfl (sh_0 hS) (rf_0_5 hR) ?_
    refine q_getR (x := some 724) (pc2 := 73) d_X_changedFeatures_70 rfl k_X_324 rfl (sh_723 hS) (rf_723_0 hR) ?_
    refine r_iload_n (pc2 := 74) d_X_changedFeatures_73 rfl rfl ?_
    refine q_iaload (q := i) (x := (AN (TRK tK tF tC tS) G2 p i).1) (pc2 := 75) d_X_changedFeatures_74 rfl (sh_724 hS) (nI_toInt (by omega)) (by omega) ((haK3.2.2.2 i hpi2.2).1) ?_
    refine q_icmp_eq (tgt := 84) (A := ((AN (TRK tK tF tC tS) G p i).1).toInt) (B := ((AN (TRK tK tF tC tS) G2 p i).1).toInt) (pc2 := 78) d_X_changedFeatures_75 rfl rfl (rfl) (rfl) (fun c4 => ?_) (fun c4 => ?_)
    · refine q_iinc (b := 1) (pc2 := 87) d_X_changedFeatures_84 rfl rfl (by decide) (Nat.le_of_ble_eq_true rfl) ?_
      refine r_goto (tgt := 18) d_X_changedFeatures_87 rfl ?_
      rw [show bits P i = bits P (i + 1) from by rw [bits_s, if_neg (by rw [hP]; simp only [decide_eq_true_eq]; exact fun q => q c4.symm)]]
      refine Run.sub (l2 := [(0, .ref 0), (1, .int (nI p)), (2, .int (bits P (i + 1))), (3, .int (nI (i + 1)))]) ⟨rfl, rfl, rfl, rfl, trivial⟩ ?_
      exact ih_ (nF - (i + 1)) (by omega) (i + 1) K3 ((pth G (AN (TRK tK tF tC tS) G p) 12 i l)) ((pth G2 (AN (TRK tK tF tC tS) G2 p) 12 i l2)) rfl ((FrX.tr (FrX.tr v0_ (hnK2.x (by decide))) (hnK3.x (by decide)))) (e2K3) (hbK3) (hpi0.1.1) (hpi0.1.2.1) (haK3) (hpi2.1.1) (hpi2.1.2.1) (by omega)
    · refine r_iload_n (pc2 := 79) d_X_changedFeatures_78 rfl rfl ?_
      refine r_iconst (v := nI 1) (pc2 := 80) d_X_changedFeatures_79 rfl (by decide) ?_
      refine r_iload_n (pc2 := 81) d_X_changedFeatures_80 rfl rfl ?_
      refine r_ishl (pc2 := 82) d_X_changedFeatures_81 rfl ?_
      refine r_ior (pc2 := 83) d_X_changedFeatures_82 rfl ?_
      refine r_istore_n (pc2 := 84) d_X_changedFeatures_83 rfl rfl (Nat.le_of_ble_eq_true rfl) ?_
      refine q_iinc (b := 1) (pc2 := 87) d_X_changedFeatures_84 rfl rfl (by decide) (Nat.le_of_ble_eq_true rfl) ?_
      refine r_goto (tgt := 18) d_X_changedFeatures_87 rfl ?_
      rw [show (bits P i) ||| ((nI 1) <<< ((nI i) &&& 31)) = bits P (i + 1) from by rw [bits_s, if_pos (by rw [hP]; exact decide_eq_true (fun q => c4 q.symm))]]
      refine Run.sub (l2 := [(0, .ref 0), (1, .int (nI p)), (2, .int (bits P (i + 1))), (3, .int (nI (i + 1)))]) ⟨rfl, rfl, rfl, rfl, trivial⟩ ?_
      exact ih_ (nF - (i + 1)) (by omega) (i + 1) K3 ((pth G (AN (TRK tK tF tC tS) G p) 12 i l)) ((pth G2 (AN (TRK tK tF tC tS) G2 p) 12 i l2)) rfl ((FrX.tr (FrX.tr v0_ (hnK2.x (by decide))) (hnK3.x (by decide)))) (e2K3) (hbK3) (hpi0.1.1) (hpi0.1.2.1) (haK3) (hpi2.1.1) (hpi2.1.2.1) (by omega)
theorem c_X_changedFeatures {d : Nat} {J0 : Nat → Nat → Int32} {R : Nat → Nat → Option Nat} {L : Nat → Nat → Int64} {sh : Nat → Nat × Nat} {N : Nat} (hS : ShOK sh) (hR : RfOK R) {tK tF tC tS : Nat → Int32} {nt : Nat} (hV : TV tK tF tC nt) (hV2 : TV2 tK tF tC tS nt) (hnt6 : nt ≤ 1000000) {G G2 : Nat → Int32} {nP nF nS : Nat} (hW : WFA G nP nF nt) {rk : Nat → Nat} (hrk : RK G nF rk) (hW2 : WFA G2 nP nF nt) (hrk2 : RK G2 nF rk) {p : Nat} (hp : p < nP) (hD0 : DR tK tF tC tS J0 R sh nt 0 G nP nF nS) (hD2 : DR tK tF tC tS J0 R sh nt 2 G2 nP nF nS) (hd : 60 ≤ d) : Mt mi_X_changedFeatures d 0 0 [.ref 0, .int (nI p)] (J0, R, L, sh, N) (fun x h2 => ∃ K, h2 = (K, R, L, sh, N) ∧ x = some (.int (bits (fun F => decide ((AN (TRK tK tF tC tS) G2 p F).1.toInt ≠ (AN (TRK tK tF tC tS) G p F).1.toInt)) nF)) ∧ FrX sh J0 K ∧ DR tK tF tC tS K R sh nt 2 G2 nP nF nS) := by
  obtain ⟨hPc, hP24, hFc, hF12, hWF, hWP⟩ := id hW
  refine Mt.of pn_X (Nat.le_of_ble_eq_true rfl) ?_
  show Run mi_X_changedFeatures d 0 0 0 [(0, .ref 0), (1, .int (nI p))] [] (J0, R, L, sh, N) _
  refine r_aload_n (x := some 0) (pc2 := 1) d_X_changedFeatures_0 rfl rfl ?_
  refine q_getR (x := some 718) (pc2 := 4) d_X_changedFeatures_1 rfl k_X_29 rfl (sh_0 hS) (rf_0_4 hR) ?_
  refine r_callv (M2 := mi_An_begin) (pc2 := 7) d_X_changedFeatures_4 rfl k_X_429 cm_An_begin cv_An_begin (sh_718 hS) (by decide) rfl rfl rfl (Nat.le_of_ble_eq_true rfl) (c_An_begin (I := J0) (An := AN (TRK tK tF tC tS) G p) hS hR (A := 718) (by decide) FrN.rf) (d2 := d - 1) (by omega) (Nat.le_of_eq (Nat.zero_add _)) (Nat.le_of_eq (Nat.zero_add _)) (fun r2 h2 hq2 => ?_)
  obtain ⟨rfl, K1, rfl, hnK1, haK1⟩ := hq2
  change Run _ _ _ _ _ _ [] _ _
  refine r_aload_n (x := some 0) (pc2 := 8) d_X_changedFeatures_7 rfl rfl ?_
  refine q_getR (x := some 723) (pc2 := 11) d_X_changedFeatures_8 rfl k_X_33 rfl (sh_0 hS) (rf_0_5 hR) ?_
  refine r_callv (M2 := mi_An_begin) (pc2 := 14) d_X_changedFeatures_11 rfl k_X_429 cm_An_begin cv_An_begin (sh_723 hS) (by decide) rfl rfl rfl (Nat.le_of_ble_eq_true rfl) (c_An_begin (I := K1) (An := AN (TRK tK tF tC tS) G2 p) hS hR (A := 723) (by decide) FrN.rf) (d2 := d - 1) (by omega) (Nat.le_of_eq (Nat.zero_add _)) (Nat.le_of_eq (Nat.zero_add _)) (fun r2 h2 hq2 => ?_)
  obtain ⟨rfl, K2, rfl, hnK2, haK2⟩ := hq2
  change Run _ _ _ _ _ _ [] _ _
  refine r_iconst (v := nI 0) (pc2 := 15) d_X_changedFeatures_14 rfl (by decide) ?_
  refine r_istore_n (pc2 := 16) d_X_changedFeatures_15 rfl rfl (Nat.le_of_ble_eq_true rfl) ?_
  refine r_iconst (v := nI 0) (pc2 := 17) d_X_changedFeatures_16 rfl (by decide) ?_
  refine r_istore_n (pc2 := 18) d_X_changedFeatures_17 rfl rfl (Nat.le_of_ble_eq_true rfl) ?_
  refine Run.sub (l2 := [(0, .ref 0), (1, .int (nI p)), (2, .int (nI 0)), (3, .int (nI 0))]) ⟨rfl, rfl, rfl, rfl, trivial⟩ ?_
  exact l_X_changed (J0 := J0) hS hR hV hV2 hnt6 hW hrk hW2 hrk2 hp hD0 (P := fun F => decide ((AN (TRK tK tF tC tS) G2 p F).1.toInt ≠ (AN (TRK tK tF tC tS) G p F).1.toInt)) (fun F => rfl) (fun K h1 h2 => ⟨K, rfl, rfl, h1, h2⟩) (by omega) _ 0 K2 [] [] rfl ((hnK1.x (by decide)).tr (hnK2.x (by decide))) (DR.n hS hW2 (by decide) (by decide) (DR.n hS hW2 (by decide) (by decide) hD2 hnK1) hnK2) (AS.fr haK1 (fun a h1 h2 => hnK2.row (by omega) (sh_n14 hS (by omega)))) List.nodup_nil (fun x hx => absurd hx List.not_mem_nil) haK2 List.nodup_nil (fun x hx => absurd hx List.not_mem_nil) (Nat.zero_le _)
theorem l_X_shakes {d : Nat} {J0 : Nat → Nat → Int32} {R : Nat → Nat → Option Nat} {L : Nat → Nat → Int64} {sh : Nat → Nat × Nat} {N : Nat} (hS : ShOK sh) (hR : RfOK R) {tK tF tC tS : Nat → Int32} {nt : Nat} (hV : TV tK tF tC nt) (hV2 : TV2 tK tF tC tS nt) (hnt6 : nt ≤ 1000000) {G G2 : Nat → Int32} {nP nF nS : Nat} (hW : WFA G nP nF nt) {rk : Nat → Nat} (hrk : RK G nF rk) (hW2 : WFA G2 nP nF nt) (hrk2 : RK G2 nF rk) (hD0 : DR tK tF tC tS J0 R sh nt 0 G nP nF nS) {Q : Option Value → HS → Prop} (hq : ∀ K, FrX sh J0 K → Q (some (.int (bits (fun F => anyB (fun p => decide ((AN (TRK tK tF tC tS) G2 p F).1.toInt ≠ (AN (TRK tK tF tC tS) G p F).1.toInt)) nP) nF))) (K, R, L, sh, N)) (hd : 70 ≤ d) : ∀ (n_ : Nat) (i : Nat) (J : Nat → Nat → Int32), nP - i = n_ → (FrX sh J0 J) → (DR tK tF tC tS J R sh nt 2 G2 nP nF nS) → (i ≤ nP) → Run mi_X_shakes d 0 0 56 [(0, .ref 0), (2, .int (bits (fun F => anyB (fun p => decide ((AN (TRK tK tF tC tS) G2 p F).1.toInt ≠ (AN (TRK tK tF tC tS) G p F).1.toInt)) i) nF)), (3, .int (nI i))] [] (J, R, L, sh, N) Q := by
  intro n_
  induction n_ using Nat.strongRecOn with | ind n_ ih_ => ?_
  intro i J hn_ v0_ v1_ v2_
  obtain ⟨hPc, hP24, hFc, hF12, hWF, hWP⟩ := id hW
  have hd0J := DR.x hS hW (by decide) hD0 v0_ FrXR.rf
  refine r_iload_n (pc2 := 57) d_X_shakes_56 rfl rfl ?_
  refine r_aload_n (x := some 0) (pc2 := 58) d_X_shakes_57 rfl rfl ?_
  refine q_getR (x := some 1) (pc2 := 61) d_X_shakes_58 rfl k_X_12 rfl (sh_0 hS) (rf_0_0 hR) ?_
  refine q_getR (x := some 2) (pc2 := 64) d_X_shakes_61 rfl k_X_179 rfl (sh_1 hS) (rf_1_0 hR) ?_
  refine q_getI (x := nI nP) (pc2 := 67) d_X_shakes_64 rfl k_X_189 (by decide) (sh_2 hS) hd0J.1.1 ?_
  refine q_icmp_ge (tgt := 84) (A := ((i : Nat) : Int)) (B := ((nP : Nat) : Int)) (pc2 := 70) d_X_shakes_67 rfl rfl (nI_toInt (by omega)) (nI_toInt (by omega)) (fun c1 => ?_) (fun c1 => ?_)
  · refine r_iload_n (pc2 := 85) d_X_shakes_84 rfl rfl ?_
    refine Run.ret (some (.int (bits (fun F => anyB (fun p => decide ((AN (TRK tK tF tC tS) G2 p F).1.toInt ≠ (AN (TRK tK tF tC tS) G p F).1.toInt)) i) nF))) d_X_shakes_85 ⟨_, rfl⟩ ?_
    rw [show i = nP by omega]; exact hq J v0_
  · refine r_iload_n (pc2 := 71) d_X_shakes_70 rfl rfl ?_
    refine r_aload_n (x := some 0) (pc2 := 72) d_X_shakes_71 rfl rfl ?_
    refine r_iload_n (pc2 := 73) d_X_shakes_72 rfl rfl ?_
    refine r_callv (M2 := mi_X_changedFeatures) (pc2 := 76) d_X_shakes_73 rfl k_X_362 cm_X_changedFeatures cv_X_changedFeatures (sh_0 hS) (by decide) rfl rfl rfl (Nat.le_of_ble_eq_true rfl) (c_X_changedFeatures (J0 := J) hS hR hV hV2 hnt6 hW hrk hW2 hrk2 (p := i) (by omega) hd0J v1_ (d := d - 1) (by omega)) (d2 := d - 1) (by omega) (Nat.le_of_eq (Nat.zero_add _)) (Nat.le_of_eq (Nat.zero_add _)) (fun r2 h2 hq2 => ?_)
    obtain ⟨K2, rfl, rfl, hxK2, heK2⟩ := hq2
    change Run _ _ _ _ _ _ [.int (bits (fun F => decide ((AN (TRK tK tF tC tS) G2 i F).1.toInt ≠ (AN (TRK tK tF tC tS) G i F).1.toInt)) nF), .int (bits (fun F => anyB (fun p => decide ((AN (TRK tK tF tC tS) G2 p F).1.toInt ≠ (AN (TRK tK tF tC tS) G p F).1.toInt)) i) nF)] _ _
    refine r_ior (pc2 := 77) d_X_shakes_76 rfl ?_
    refine r_istore_n (pc2 := 78) d_X_shakes_77 rfl rfl (Nat.le_of_ble_eq_true rfl) ?_
    refine q_iinc (b := 1) (pc2 := 81) d_X_shakes_78 rfl rfl (by decide) (Nat.le_of_ble_eq_true rfl) ?_
    refine r_goto (tgt := 56) d_X_shakes_81 rfl ?_
    rw [bits_orB (by omega)]
    refine Run.sub (l2 := [(0, .ref 0), (2, .int (bits (fun F => anyB (fun p => decide ((AN (TRK tK tF tC tS) G2 p F).1.toInt ≠ (AN (TRK tK tF tC tS) G p F).1.toInt)) (i + 1)) nF)), (3, .int (nI (i + 1)))]) ⟨rfl, rfl, rfl, trivial⟩ ?_
    exact ih_ (nP - (i + 1)) (by omega) (i + 1) K2 rfl (FrX.tr v0_ hxK2) (heK2) (by omega)
theorem c_X_shakes {d : Nat} {I : Nat → Nat → Int32} {R : Nat → Nat → Option Nat} {L : Nat → Nat → Int64} {sh : Nat → Nat × Nat} {N : Nat} (hS : ShOK sh) (hR : RfOK R) {tK tF tC tS : Nat → Int32} {nt : Nat} (hV : TV tK tF tC nt) (hV2 : TV2 tK tF tC tS nt) (hnt6 : nt ≤ 1000000) {G : Nat → Int32} {nP nF nS : Nat} (hW : WFA G nP nF nt) (hWT : WFT G nF nS) (hKW : WFK G nP nF) {rk : Nat → Nat} (hrk : RK G nF rk) (hD : DR tK tF tC tS I R sh nt 0 G nP nF nS) {f : Int32} (hd : 90 ≤ d) : Mt mi_X_shakes d 0 0 [.ref 0, .int f] (I, R, L, sh, N) (XP I R L sh N (o_shakes (TRK tK tF tC tS) G nP nF f) (fun K _ => FrX sh I K)) := by
  obtain ⟨hPc, hP24, hFc, hF12, hWF, hWP⟩ := id hW
  refine Mt.of pn_X (Nat.le_of_ble_eq_true rfl) ?_
  show Run mi_X_shakes d 0 0 0 [(0, .ref 0), (1, .int f)] [] (I, R, L, sh, N) _
  refine r_aload_n (x := some 0) (pc2 := 1) d_X_shakes_0 rfl rfl ?_
  refine r_iload_n (pc2 := 2) d_X_shakes_1 rfl rfl ?_
  refine q_callv (M2 := mi_X_isFeature) (pc2 := 5) d_X_shakes_2 rfl k_X_220 cm_X_isFeature cv_X_isFeature (sh_0 hS) (by decide) rfl rfl rfl (Nat.le_of_ble_eq_true rfl) (c_X_isFeature (f := f) hS hR hV hV2 hnt6 hW hWT hKW hrk hD) (d2 := d - 1) (by omega) (Nat.le_of_eq (Nat.zero_add _)) (Nat.le_of_eq (Nat.zero_add _)) ?_
  refine q_bif_ne (tgt := 15) (pc2 := 8) d_X_shakes_5 rfl rfl (fun c1 => ?_) (fun c1 => ?_)
  · obtain ⟨fN, hfN, rfl, efN⟩ := nat_of c1
    obtain ⟨tpfN, klfN, skfN, fbfN, nRfN, nNfN, nOfN, frfN, tofN, ⟨a0fN, b0fN, cc0fN, dd0fN⟩, ⟨a1fN, b1fN, cc1fN, dd1fN⟩, ⟨a2fN, b2fN, cc2fN, dd2fN⟩, ⟨a3fN, b3fN, cc3fN, dd3fN⟩, ⟨a4fN, b4fN, cc4fN, dd4fN⟩, ⟨a5fN, b5fN, cc5fN, dd5fN⟩, ⟨a6fN, b6fN, cc6fN, dd6fN⟩, ⟨a8fN, b8fN, cc8fN, dd8fN⟩, ⟨a9fN, b9fN, cc9fN, dd9fN⟩⟩ := wfn (hWF fN (by omega))
    obtain ⟨-, -, -, -, -, -, -, w7fN, -, -, wNfN, wRfN, wKfN, wOfN⟩ := hWF fN (by omega)
    obtain ⟨⟨x0fN, x1fN, x2fN, x3fN, x4fN, x5fN, x6fN, x7fN, x8fN⟩, xnfN, xofN, xkfN, xcfN, xrfN⟩ := hD.2.2.2.1 fN (by omega)
    have hflfN := fe_lt (e := 0) (by decide) (show fN < 12 by omega)
    unfold dk at hflfN
    refine r_aload_n (x := some 0) (pc2 := 16) d_X_shakes_15 rfl rfl ?_
    refine q_getR (x := some 479) (pc2 := 19) d_X_shakes_16 rfl k_X_19 rfl (sh_0 hS) (rf_0_2 hR) ?_
    refine r_aload_n (x := some 0) (pc2 := 20) d_X_shakes_19 rfl rfl ?_
    refine q_getR (x := some 1) (pc2 := 23) d_X_shakes_20 rfl k_X_12 rfl (sh_0 hS) (rf_0_0 hR) ?_
    refine r_callv (M2 := mi_De_become) (pc2 := 26) d_X_shakes_23 rfl k_X_339 cm_De_become cv_De_become (sh_479 hS) (by decide) rfl rfl rfl (Nat.le_of_ble_eq_true rfl) (c_De_become_02 (I := I) hS hR hW hWT.2.1 hD (d := d - 1) (by omega)) (d2 := d - 1) (by omega) (Nat.le_of_eq (Nat.zero_add _)) (Nat.le_of_eq (Nat.zero_add _)) (fun r2 h2 hq2 => ?_)
    obtain ⟨rfl, K2, R3, rfl, hfK2, hbR3, hdK2⟩ := hq2
    change Run _ _ _ _ _ _ [] _ _
    have hrR3 := hbR3.2 hR
    have hx1 : K2 (fe 2 fN) 1 = nI klfN := (hdK2.2.2.2.1 fN (by omega)).1.2.1.trans a1fN
    refine r_aload_n (x := some 0) (pc2 := 27) d_X_shakes_26 rfl rfl ?_
    refine q_getR (x := some 479) (pc2 := 30) d_X_shakes_27 rfl k_X_19 rfl (sh_0 hS) (rf_0_2 hrR3) ?_
    refine q_getR (x := some 483) (pc2 := 33) d_X_shakes_30 rfl k_X_211 rfl (sh_479 hS) (rf_479_1 hrR3) ?_
    refine r_iload_n (pc2 := 34) d_X_shakes_33 rfl rfl ?_
    refine q_aaload (q := fN) (x := some (fe 2 fN)) (pc2 := 35) d_X_shakes_34 rfl (sh_483 hS) (by decide) (by decide) (nI_toInt (by omega)) (by omega) (rf_fe hrR3 (show 2 < 3 by decide) (show fN < 12 by omega)) ?_
    refine r_iconst (v := nI 1) (pc2 := 36) d_X_shakes_35 rfl (by decide) ?_
    refine r_aload_n (x := some 0) (pc2 := 37) d_X_shakes_36 rfl rfl ?_
    refine q_getR (x := some 479) (pc2 := 40) d_X_shakes_37 rfl k_X_19 rfl (sh_0 hS) (rf_0_2 hrR3) ?_
    refine q_getR (x := some 483) (pc2 := 43) d_X_shakes_40 rfl k_X_211 rfl (sh_479 hS) (rf_479_1 hrR3) ?_
    refine r_iload_n (pc2 := 44) d_X_shakes_43 rfl rfl ?_
    refine q_aaload (q := fN) (x := some (fe 2 fN)) (pc2 := 45) d_X_shakes_44 rfl (sh_483 hS) (by decide) (by decide) (nI_toInt (by omega)) (by omega) (rf_fe hrR3 (show 2 < 3 by decide) (show fN < 12 by omega)) ?_
    refine q_getI (x := nI klfN) (pc2 := 48) d_X_shakes_45 rfl k_X_223 (by decide) (sh_fe0 hS (show 2 < 3 by decide) (show fN < 12 by omega)) hx1 ?_
    refine q_isubN (pc2 := 49) d_X_shakes_48 rfl (by omega) ?_
    refine q_putI (pc2 := 52) d_X_shakes_49 rfl k_X_223 (Or.inl rfl) (sh_fe0 hS (show 2 < 3 by decide) (show fN < 12 by omega)) (Or.inl rfl) (fun I4 hI4 => ?_)
    refine r_iconst (v := nI 0) (pc2 := 53) d_X_shakes_52 rfl (by decide) ?_
    refine r_istore_n (pc2 := 54) d_X_shakes_53 rfl rfl (Nat.le_of_ble_eq_true rfl) ?_
    refine r_iconst (v := nI 0) (pc2 := 55) d_X_shakes_54 rfl (by decide) ?_
    refine r_istore_n (pc2 := 56) d_X_shakes_55 rfl rfl (Nat.le_of_ble_eq_true rfl) ?_
    have hsk : shkG G fN = u1 G (174 + 84 * fN + 1) (nI (1 - klfN)) := by unfold shkG; rw [a1fN, pk_sub (by omega)]
    have w2 := shk_W hW (show fN < nF by omega)
    have rk2 := shk_K (f := fN) hW hrk
    have e2 : DR tK tF tC tS I4 R3 sh nt 2 (shkG G fN) nP nF nS := by rw [hsk]; exact DR.fE (by decide) hW hWT (show fN < nF by omega) hdK2 (fun a j q => rd_ne hI4 (by omega)) (fun j hj => u1_o (by omega)) (FR.s1 (by decide) (by omega) hP24 (hWF fN (by omega)) (hdK2.2.2.2.1 fN (by omega)) hI4)
    have d00 := DR.x hS hW (by decide) hD (hfK2.put hI4 (by unfold fe dk; omega)).x hbR3.x
    refine Run.sub (l2 := [(0, .ref 0), (2, .int (nI 0)), (3, .int (nI 0))]) ⟨rfl, rfl, rfl, trivial⟩ ?_
    refine Run.sub (l2 := [(0, .ref 0), (2, .int (bits (fun F => anyB (fun p => decide ((AN (TRK tK tF tC tS) (shkG G fN) p F).1.toInt ≠ (AN (TRK tK tF tC tS) G p F).1.toInt)) 0) nF)), (3, .int (nI 0))]) ⟨rfl, congrArg (fun z => some (Value.int z)) (bits_no (fun _ _ => rfl)).symm, rfl, trivial⟩ ?_
    exact l_X_shakes (J0 := I4) (R := R3) hS hrR3 hV hV2 hnt6 hW hrk w2 rk2 d00 (fun K hK => XP.val (by (try simp only [efN, b0fN, b1fN, b2fN, b3fN, b4fN, b5fN, b6fN, b8fN, b9fN, Int.toNat_natCast] at c1); (unfold o_shakes); (try dsimp only); (try simp only [efN, b0fN, b1fN, b2fN, b3fN, b4fN, b5fN, b6fN, b8fN, b9fN, Int.toNat_natCast]); (repeat (first | rw [if_pos (by omega)] | rw [if_neg (by omega)])); (try rfl); (all_goals first | rfl | (simp only [a0fN, a1fN, a2fN, a3fN, a4fN, a5fN, a6fN, a8fN, a9fN]; done) | (congr 2 <;> omega) | ((repeat' split) <;> first | rfl | (simp only [a0fN, a1fN, a2fN, a3fN, a4fN, a5fN, a6fN, a8fN, a9fN]; done) | (exfalso; omega) | (congr 2 <;> omega) | skip))) hbR3.x (FrX.tr (hfK2.put hI4 (by unfold fe dk; omega)).x hK)) (by omega) _ 0 I4 rfl FrX.rf e2 (Nat.zero_le _)
  · refine r_aload_n (x := some 0) (pc2 := 9) d_X_shakes_8 rfl rfl ?_
    refine r_bipush (v := (-32 : Int32)) (pc2 := 11) d_X_shakes_9 rfl (by decide) ?_
    refine q_callv (M2 := mi_X_refuse) (pc2 := 14) d_X_shakes_11 rfl k_X_75 cm_X_refuse cv_X_refuse (sh_0 hS) (by decide) rfl rfl rfl (Nat.le_of_ble_eq_true rfl) (c_X_refuse_0 (J := I) hS hR) (d2 := d - 1) (by omega) (Nat.le_of_eq (Nat.zero_add _)) (Nat.le_of_eq (Nat.zero_add _)) ?_
    obtain ⟨I5, hI5⟩ : ∃ x, x = u2 I 744 0 (I 744 0 + nI 1) := ⟨_, rfl⟩
    rw [← hI5]
    refine Run.ret (some (.int ((-32 : Int32)))) d_X_shakes_14 ⟨_, rfl⟩ ?_
    exact XP.bad hS 0 (by (unfold o_shakes); (try dsimp only); (try simp only [Int.toNat_natCast]); (repeat (first | rw [if_pos (by omega)] | rw [if_neg (by omega)])); (try rfl); (all_goals first | rfl | (congr 2 <;> omega) | ((repeat' split) <;> first | rfl | (exfalso; omega) | (congr 2 <;> omega) | skip))) (by decide) FrXR.rf FrX.rf hI5
