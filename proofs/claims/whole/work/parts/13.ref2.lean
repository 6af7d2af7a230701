/-! THE REFERENCE: helpers, on -/
/-- a number that is in range is a natural one -/
theorem nat_of {x : Int32} {n : Nat} (h : 0 ≤ x.toInt ∧ x.toInt < (n : Int)) : ∃ F : Nat, F < n ∧ x = nI F ∧ x.toInt = (F : Int) :=
  ⟨x.toInt.toNat, by omega, eq_nI (by omega), by omega⟩
theorem nat_of' {x : Int32} {a n : Int} (ha : 0 ≤ a) (h : a ≤ x.toInt ∧ x.toInt ≤ n) : ∃ F : Nat, (F : Int) ≤ n ∧ a ≤ (F : Int) ∧ x = nI F ∧ x.toInt = (F : Int) :=
  ⟨x.toInt.toNat, by omega, by omega, eq_nI (by omega), by omega⟩
theorem c_M_isRule {d : Nat} {I : Nat → Nat → Int32} {R : Nat → Nat → Option Nat} {L : Nat → Nat → Int64} {sh : Nat → Nat × Nat} {N : Nat} (hS : ShOK sh) (hR : RfOK R) {nF : Nat} (hFc : I 762 1 = nI nF) (hF12 : nF ≤ 12) {nR : Nat → Nat} (hnR : ∀ F, F < nF → I 762 (174 + 84 * F + 4) = nI (nR F) ∧ nR F ≤ 6) {f r : Int32} (hd : 2 ≤ d) : Me mi_M_isRule d 0 0 [.ref 761, .int f, .int r] (I, R, L, sh, N) (some (.int (bI ((0 ≤ f.toInt ∧ f.toInt < nF) ∧ 0 ≤ r.toInt ∧ r.toInt < nR f.toInt.toNat)))) (I, R, L, sh, N) := by
  refine Mt.of pn_M (Nat.le_of_ble_eq_true rfl) ?_
  show Run mi_M_isRule d 0 0 0 [(0, .ref 761), (1, .int f), (2, .int r)] [] (I, R, L, sh, N) _
  refine r_aload_n (x := some 761) (pc2 := 1) d_M_isRule_0 rfl rfl ?_
  refine r_iload_n (pc2 := 2) d_M_isRule_1 rfl rfl ?_
  refine q_callv (M2 := mi_M_isFeature) (pc2 := 5) d_M_isRule_2 rfl k_M_72 cm_M_isFeature cv_M_isFeature (sh_761 hS) (by decide) rfl rfl rfl (Nat.le_of_ble_eq_true rfl) (c_M_isFeature (I := I) (nF := nF) (f := f) hS hR (hFc) hF12 (by omega)) (d2 := d - 1) (by omega) (Nat.le_of_eq (Nat.zero_add _)) (Nat.le_of_eq (Nat.zero_add _)) ?_
  refine q_bif_eq (tgt := 30) (pc2 := 8) d_M_isRule_5 rfl rfl (fun c1 => ?_) (fun c1 => ?_)
  · refine r_iconst (v := nI 0) (pc2 := 31) d_M_isRule_30 rfl (by decide) ?_
    refine Run.ret (some (.int (nI 0))) d_M_isRule_31 ⟨_, rfl, by decide⟩ ?_
    exact ⟨by rw [bI_f (by first | omega | (rw [eF, Int.toNat_natCast]; omega))]; rfl, rfl⟩
  · obtain ⟨F, hF, rfl, eF⟩ := nat_of c1
    obtain ⟨hq1, hq2⟩ := hnR F hF
    refine r_iload_n (pc2 := 9) d_M_isRule_8 rfl rfl ?_
    refine r_i2l (pc2 := 10) d_M_isRule_9 rfl ?_
    refine r_lconst (v := (0 : Int64)) (pc2 := 11) d_M_isRule_10 rfl (by decide) ?_
    refine r_aload_n (x := some 761) (pc2 := 12) d_M_isRule_11 rfl rfl ?_
    refine r_iload_n (pc2 := 13) d_M_isRule_12 rfl rfl ?_
    refine r_iconst (v := nI 4) (pc2 := 14) d_M_isRule_13 rfl (by decide) ?_
    refine q_callv (M2 := mi_M_of) (pc2 := 17) d_M_isRule_14 rfl k_M_76 cm_M_of cv_M_of (sh_761 hS) (by decide) rfl rfl rfl (Nat.le_of_ble_eq_true rfl) (c_M_of (I := I) (F := F) (W := 4) hS hR (by omega)) (d2 := d - 1) (by omega) (Nat.le_of_eq (Nat.zero_add _)) (Nat.le_of_eq (Nat.zero_add _)) ?_
    refine q_top (y := nI (nR F)) (hq1) ?_
    refine r_iconst (v := nI 1) (pc2 := 18) d_M_isRule_17 rfl (by decide) ?_
    refine r_isub (pc2 := 19) d_M_isRule_18 rfl ?_
    refine r_i2l (pc2 := 20) d_M_isRule_19 rfl ?_
    refine q_calls (M2 := mi_M_in) (pc2 := 23) d_M_isRule_20 rfl k_M_68 cm_M_in cs_M_in rfl rfl (Nat.le_of_ble_eq_true rfl) (c_M_in (A := r.toInt) (B := (0 : Int)) (C := ((nR F : Nat) : Int) - ((1 : Nat) : Int)) (toInt64_toInt (rfl)) (by decide) (toInt64_toInt (nI_sub_toInt (by omega) (by omega)))) (d2 := d - 1) (by omega) (Nat.le_of_eq (Nat.zero_add _)) (Nat.le_of_eq (Nat.zero_add _)) ?_
    refine q_bif_eq (tgt := 30) (pc2 := 26) d_M_isRule_23 rfl rfl (fun c2 => ?_) (fun c2 => ?_)
    · refine r_iconst (v := nI 0) (pc2 := 31) d_M_isRule_30 rfl (by decide) ?_
      refine Run.ret (some (.int (nI 0))) d_M_isRule_31 ⟨_, rfl, by decide⟩ ?_
      exact ⟨by rw [bI_f (by first | omega | (rw [eF, Int.toNat_natCast]; omega))]; rfl, rfl⟩
    · refine r_iconst (v := nI 1) (pc2 := 27) d_M_isRule_26 rfl (by decide) ?_
      refine r_goto (tgt := 31) d_M_isRule_27 rfl ?_
      refine Run.ret (some (.int (nI 1))) d_M_isRule_31 ⟨_, rfl, by decide⟩ ?_
      exact ⟨by rw [bI_t (by rw [eF, Int.toNat_natCast]; omega)]; rfl, rfl⟩
theorem c_M_isVariant {d : Nat} {I : Nat → Nat → Int32} {R : Nat → Nat → Option Nat} {L : Nat → Nat → Int64} {sh : Nat → Nat × Nat} {N : Nat} (hS : ShOK sh) (hR : RfOK R) {nF : Nat} (hFc : I 762 1 = nI nF) (hF12 : nF ≤ 12) {f v : Int32} (hd : 2 ≤ d) : Me mi_M_isVariant d 0 0 [.ref 761, .int f, .int v] (I, R, L, sh, N) (some (.int (bI ((0 ≤ f.toInt ∧ f.toInt < nF) ∧ 0 ≤ v.toInt ∧ v.toInt ≤ (I 762 (174 + 84 * f.toInt.toNat + 0)).toInt)))) (I, R, L, sh, N) := by
  refine Mt.of pn_M (Nat.le_of_ble_eq_true rfl) ?_
  show Run mi_M_isVariant d 0 0 0 [(0, .ref 761), (1, .int f), (2, .int v)] [] (I, R, L, sh, N) _
  refine r_aload_n (x := some 761) (pc2 := 1) d_M_isVariant_0 rfl rfl ?_
  refine r_iload_n (pc2 := 2) d_M_isVariant_1 rfl rfl ?_
  refine q_callv (M2 := mi_M_isFeature) (pc2 := 5) d_M_isVariant_2 rfl k_M_72 cm_M_isFeature cv_M_isFeature (sh_761 hS) (by decide) rfl rfl rfl (Nat.le_of_ble_eq_true rfl) (c_M_isFeature (I := I) (nF := nF) (f := f) hS hR (hFc) hF12 (by omega)) (d2 := d - 1) (by omega) (Nat.le_of_eq (Nat.zero_add _)) (Nat.le_of_eq (Nat.zero_add _)) ?_
  refine q_bif_eq (tgt := 28) (pc2 := 8) d_M_isVariant_5 rfl rfl (fun c1 => ?_) (fun c1 => ?_)
  · refine r_iconst (v := nI 0) (pc2 := 29) d_M_isVariant_28 rfl (by decide) ?_
    refine Run.ret (some (.int (nI 0))) d_M_isVariant_29 ⟨_, rfl, by decide⟩ ?_
    exact ⟨by rw [bI_f (by first | omega | (rw [eF, Int.toNat_natCast]; omega))]; rfl, rfl⟩
  · obtain ⟨F, hF, rfl, eF⟩ := nat_of c1
    refine r_iload_n (pc2 := 9) d_M_isVariant_8 rfl rfl ?_
    refine r_i2l (pc2 := 10) d_M_isVariant_9 rfl ?_
    refine r_lconst (v := (0 : Int64)) (pc2 := 11) d_M_isVariant_10 rfl (by decide) ?_
    refine r_aload_n (x := some 761) (pc2 := 12) d_M_isVariant_11 rfl rfl ?_
    refine r_iload_n (pc2 := 13) d_M_isVariant_12 rfl rfl ?_
    refine r_iconst (v := nI 0) (pc2 := 14) d_M_isVariant_13 rfl (by decide) ?_
    refine q_callv (M2 := mi_M_of) (pc2 := 17) d_M_isVariant_14 rfl k_M_76 cm_M_of cv_M_of (sh_761 hS) (by decide) rfl rfl rfl (Nat.le_of_ble_eq_true rfl) (c_M_of (I := I) (F := F) (W := 0) hS hR (by omega)) (d2 := d - 1) (by omega) (Nat.le_of_eq (Nat.zero_add _)) (Nat.le_of_eq (Nat.zero_add _)) ?_
    refine r_i2l (pc2 := 18) d_M_isVariant_17 rfl ?_
    refine q_calls (M2 := mi_M_in) (pc2 := 21) d_M_isVariant_18 rfl k_M_68 cm_M_in cs_M_in rfl rfl (Nat.le_of_ble_eq_true rfl) (c_M_in (A := v.toInt) (B := (0 : Int)) (C := (I 762 (174 + 84 * F + 0)).toInt) (toInt64_toInt (rfl)) (by decide) (toInt64_toInt (rfl))) (d2 := d - 1) (by omega) (Nat.le_of_eq (Nat.zero_add _)) (Nat.le_of_eq (Nat.zero_add _)) ?_
    refine q_bif_eq (tgt := 28) (pc2 := 24) d_M_isVariant_21 rfl rfl (fun c2 => ?_) (fun c2 => ?_)
    · refine r_iconst (v := nI 0) (pc2 := 29) d_M_isVariant_28 rfl (by decide) ?_
      refine Run.ret (some (.int (nI 0))) d_M_isVariant_29 ⟨_, rfl, by decide⟩ ?_
      exact ⟨by rw [bI_f (by first | omega | (rw [eF, Int.toNat_natCast]; omega))]; rfl, rfl⟩
    · refine r_iconst (v := nI 1) (pc2 := 25) d_M_isVariant_24 rfl (by decide) ?_
      refine r_goto (tgt := 29) d_M_isVariant_25 rfl ?_
      refine Run.ret (some (.int (nI 1))) d_M_isVariant_29 ⟨_, rfl, by decide⟩ ?_
      exact ⟨by rw [bI_t (by rw [eF, Int.toNat_natCast]; omega)]; rfl, rfl⟩
theorem c_M_ruleAt {d : Nat} {h : HS} {F r k : Nat} : Me mi_M_ruleAt d 0 0 [.int (nI F), .int (nI r), .int (nI k)] h (some (.int (nI (174 + 84 * F + 60 + 4 * r + k)))) h := by
  refine Mt.of pn_M (Nat.le_of_ble_eq_true rfl) ?_
  show Run mi_M_ruleAt d 0 0 0 [(0, .int (nI F)), (1, .int (nI r)), (2, .int (nI k))] [] h _
  refine r_sipush (v := nI 174) (pc2 := 3) d_M_ruleAt_0 rfl (by decide) ?_
  refine r_bipush (v := nI 84) (pc2 := 5) d_M_ruleAt_3 rfl (by decide) ?_
  refine r_iload_n (pc2 := 6) d_M_ruleAt_5 rfl rfl ?_
  refine q_imulN (pc2 := 7) d_M_ruleAt_6 rfl ?_
  refine q_iaddN (pc2 := 8) d_M_ruleAt_7 rfl ?_
  refine r_bipush (v := nI 60) (pc2 := 10) d_M_ruleAt_8 rfl (by decide) ?_
  refine q_iaddN (pc2 := 11) d_M_ruleAt_10 rfl ?_
  refine r_iconst (v := nI 4) (pc2 := 12) d_M_ruleAt_11 rfl (by decide) ?_
  refine r_iload_n (pc2 := 13) d_M_ruleAt_12 rfl rfl ?_
  refine q_imulN (pc2 := 14) d_M_ruleAt_13 rfl ?_
  refine q_iaddN (pc2 := 15) d_M_ruleAt_14 rfl ?_
  refine r_iload_n (pc2 := 16) d_M_ruleAt_15 rfl rfl ?_
  refine q_iaddN (pc2 := 17) d_M_ruleAt_16 rfl ?_
  refine Run.ret (some (.int (nI (174 + 84 * F + 60 + 4 * r + k)))) d_M_ruleAt_17 ⟨_, rfl⟩ ?_
  exact ⟨rfl, rfl⟩
theorem c_M_tree {d : Nat} {I : Nat → Nat → Int32} {R : Nat → Nat → Option Nat} {L : Nat → Nat → Int64} {sh : Nat → Nat × Nat} {N : Nat} (hS : ShOK sh) (hR : RfOK R) {F r : Nat} (hF : F < 12) (hr : r < 6) (hd : 1 ≤ d) : Me mi_M_tree d 0 0 [.ref 761, .int (nI F), .int (nI r)] (I, R, L, sh, N) (some (.int (I 762 (174 + 84 * F + 60 + 4 * r + 0)))) (I, R, L, sh, N) := by
  refine Mt.of pn_M (Nat.le_of_ble_eq_true rfl) ?_
  show Run mi_M_tree d 0 0 0 [(0, .ref 761), (1, .int (nI F)), (2, .int (nI r))] [] (I, R, L, sh, N) _
  refine r_aload_n (x := some 761) (pc2 := 1) d_M_tree_0 rfl rfl ?_
  refine q_getR (x := some 762) (pc2 := 4) d_M_tree_1 rfl k_M_9 rfl (sh_761 hS) (rf_761_0 hR) ?_
  refine r_iload_n (pc2 := 5) d_M_tree_4 rfl rfl ?_
  refine r_iload_n (pc2 := 6) d_M_tree_5 rfl rfl ?_
  refine r_iconst (v := nI 0) (pc2 := 7) d_M_tree_6 rfl (by decide) ?_
  refine q_calls (M2 := mi_M_ruleAt) (pc2 := 10) d_M_tree_7 rfl k_M_80 cm_M_ruleAt cs_M_ruleAt rfl rfl (Nat.le_of_ble_eq_true rfl) (c_M_ruleAt (F := F) (r := r) (k := 0)) (d2 := d - 1) (by omega) (Nat.le_of_eq (Nat.zero_add _)) (Nat.le_of_eq (Nat.zero_add _)) ?_
  refine q_iaload (q := 174 + 84 * F + 60 + 4 * r + 0) (x := I 762 (174 + 84 * F + 60 + 4 * r + 0)) (pc2 := 11) d_M_tree_10 rfl (sh_762 hS) (nI_toInt (by omega)) (by omega) rfl ?_
  refine Run.ret (some (.int (I 762 (174 + 84 * F + 60 + 4 * r + 0)))) d_M_tree_11 ⟨_, rfl⟩ ?_
  exact ⟨rfl, rfl⟩
theorem c_M_isFixed {d : Nat} {I : Nat → Nat → Int32} {R : Nat → Nat → Option Nat} {L : Nat → Nat → Int64} {sh : Nat → Nat × Nat} {N : Nat} (hS : ShOK sh) (hR : RfOK R) {F r : Nat} (hF : F < 12) (hr : r < 6) (hd : 1 ≤ d) : Me mi_M_isFixed d 0 0 [.ref 761, .int (nI F), .int (nI r)] (I, R, L, sh, N) (some (.int (bI (1000 ≤ (I 762 (174 + 84 * F + 60 + 4 * r + 1)).toInt)))) (I, R, L, sh, N) := by
  refine Mt.of pn_M (Nat.le_of_ble_eq_true rfl) ?_
  show Run mi_M_isFixed d 0 0 0 [(0, .ref 761), (1, .int (nI F)), (2, .int (nI r))] [] (I, R, L, sh, N) _
  refine r_aload_n (x := some 761) (pc2 := 1) d_M_isFixed_0 rfl rfl ?_
  refine q_getR (x := some 762) (pc2 := 4) d_M_isFixed_1 rfl k_M_9 rfl (sh_761 hS) (rf_761_0 hR) ?_
  refine r_iload_n (pc2 := 5) d_M_isFixed_4 rfl rfl ?_
  refine r_iload_n (pc2 := 6) d_M_isFixed_5 rfl rfl ?_
  refine r_iconst (v := nI 1) (pc2 := 7) d_M_isFixed_6 rfl (by decide) ?_
  refine q_calls (M2 := mi_M_ruleAt) (pc2 := 10) d_M_isFixed_7 rfl k_M_80 cm_M_ruleAt cs_M_ruleAt rfl rfl (Nat.le_of_ble_eq_true rfl) (c_M_ruleAt (F := F) (r := r) (k := 1)) (d2 := d - 1) (by omega) (Nat.le_of_eq (Nat.zero_add _)) (Nat.le_of_eq (Nat.zero_add _)) ?_
  refine q_iaload (q := 174 + 84 * F + 60 + 4 * r + 1) (x := I 762 (174 + 84 * F + 60 + 4 * r + 1)) (pc2 := 11) d_M_isFixed_10 rfl (sh_762 hS) (nI_toInt (by omega)) (by omega) rfl ?_
  refine r_sipush (v := nI 1000) (pc2 := 14) d_M_isFixed_11 rfl (by decide) ?_
  refine q_icmp_lt (tgt := 21) (A := (I 762 (174 + 84 * F + 60 + 4 * r + 1)).toInt) (B := (1000 : Int)) (pc2 := 17) d_M_isFixed_14 rfl rfl (rfl) (nI_toInt (by omega)) (fun c1 => ?_) (fun c1 => ?_)
  · refine r_iconst (v := nI 0) (pc2 := 22) d_M_isFixed_21 rfl (by decide) ?_
    refine Run.ret (some (.int (nI 0))) d_M_isFixed_22 ⟨_, rfl, by decide⟩ ?_
    exact ⟨by rw [bI_f (by omega)]; rfl, rfl⟩
  · refine r_iconst (v := nI 1) (pc2 := 18) d_M_isFixed_17 rfl (by decide) ?_
    refine r_goto (tgt := 22) d_M_isFixed_18 rfl ?_
    refine Run.ret (some (.int (nI 1))) d_M_isFixed_22 ⟨_, rfl, by decide⟩ ?_
    exact ⟨by rw [bI_t (by omega)]; rfl, rfl⟩
theorem c_M_keyOf {d : Nat} {I : Nat → Nat → Int32} {R : Nat → Nat → Option Nat} {L : Nat → Nat → Int64} {sh : Nat → Nat × Nat} {N : Nat} (hS : ShOK sh) (hR : RfOK R) {p : Nat} (hp : p < 24) : Me mi_M_keyOf d 0 0 [.ref 761, .int (nI p)] (I, R, L, sh, N) (some (.int (I 762 (6 + 2 * p)))) (I, R, L, sh, N) := by
  refine Mt.of pn_M (Nat.le_of_ble_eq_true rfl) ?_
  show Run mi_M_keyOf d 0 0 0 [(0, .ref 761), (1, .int (nI p))] [] (I, R, L, sh, N) _
  refine r_aload_n (x := some 761) (pc2 := 1) d_M_keyOf_0 rfl rfl ?_
  refine q_getR (x := some 762) (pc2 := 4) d_M_keyOf_1 rfl k_M_9 rfl (sh_761 hS) (rf_761_0 hR) ?_
  refine r_bipush (v := nI 6) (pc2 := 6) d_M_keyOf_4 rfl (by decide) ?_
  refine r_iconst (v := nI 2) (pc2 := 7) d_M_keyOf_6 rfl (by decide) ?_
  refine r_iload_n (pc2 := 8) d_M_keyOf_7 rfl rfl ?_
  refine q_imulN (pc2 := 9) d_M_keyOf_8 rfl ?_
  refine q_iaddN (pc2 := 10) d_M_keyOf_9 rfl ?_
  refine q_iaload (q := 6 + 2 * p) (x := I 762 (6 + 2 * p)) (pc2 := 11) d_M_keyOf_10 rfl (sh_762 hS) (nI_toInt (by omega)) (by omega) rfl ?_
  refine Run.ret (some (.int (I 762 (6 + 2 * p)))) d_M_keyOf_11 ⟨_, rfl⟩ ?_
  exact ⟨rfl, rfl⟩
/-- who has a key -/
def pB (G : Nat → Int32) (n : Nat) (key : Int32) : Option Nat := fst1 (fun p => decide (G (6 + 2 * p) = key)) n
theorem l_M_personBy {d : Nat} {I : Nat → Nat → Int32} {R : Nat → Nat → Option Nat} {L : Nat → Nat → Int64} {sh : Nat → Nat × Nat} {N : Nat} (hS : ShOK sh) (hR : RfOK R) {nP : Nat} (hPc : I 762 0 = nI nP) (hP24 : nP ≤ 24) {key : Int32} (hd : 1 ≤ d) {Q : Option Value → HS → Prop} (hq : Q (some (.int (vo (pB (I 762) nP key)))) (I, R, L, sh, N)) : ∀ (n i : Nat), nP - i = n → i ≤ nP → (∀ j, j < i → I 762 (6 + 2 * j) ≠ key) → Run mi_M_personBy d 0 0 2 [(0, .ref 761), (1, .int key), (2, .int (nI i))] [] (I, R, L, sh, N) Q := by
  intro n
  induction n using Nat.strongRecOn with | ind n ih => ?_
  intro i hn hi hinv
  refine r_iload_n (pc2 := 3) d_M_personBy_2 rfl rfl ?_
  refine r_aload_n (x := some 761) (pc2 := 4) d_M_personBy_3 rfl rfl ?_
  refine q_getR (x := some 762) (pc2 := 7) d_M_personBy_4 rfl k_M_9 rfl (sh_761 hS) (rf_761_0 hR) ?_
  refine r_iconst (v := nI 0) (pc2 := 8) d_M_personBy_7 rfl (by decide) ?_
  refine q_iaload (q := 0) (x := nI nP) (pc2 := 9) d_M_personBy_8 rfl (sh_762 hS) (nI_toInt (by omega)) (by omega) hPc ?_
  refine q_icmp_ge (tgt := 29) (A := ((i : Nat) : Int)) (B := ((nP : Nat) : Int)) (pc2 := 12) d_M_personBy_9 rfl rfl (nI_toInt (by omega)) (nI_toInt (by omega)) (fun c1 => ?_) (fun c1 => ?_)
  · refine r_iconst (v := (-1 : Int32)) (pc2 := 30) d_M_personBy_29 rfl (by decide) ?_
    refine Run.ret (some (.int ((-1 : Int32)))) d_M_personBy_30 ⟨_, rfl⟩ ?_
    rw [show (-1 : Int32) = vo (pB (I 762) nP key) by unfold pB; rw [fst1_none (fun j hj => decide_eq_false (hinv j (by omega)))]; rfl]; exact hq
  · refine r_aload_n (x := some 761) (pc2 := 13) d_M_personBy_12 rfl rfl ?_
    refine r_iload_n (pc2 := 14) d_M_personBy_13 rfl rfl ?_
    refine q_callv (M2 := mi_M_keyOf) (pc2 := 17) d_M_personBy_14 rfl k_M_84 cm_M_keyOf cv_M_keyOf (sh_761 hS) (by decide) rfl rfl rfl (Nat.le_of_ble_eq_true rfl) (c_M_keyOf (I := I) (p := i) hS hR (by omega)) (d2 := d - 1) (by omega) (Nat.le_of_eq (Nat.zero_add _)) (Nat.le_of_eq (Nat.zero_add _)) ?_
    refine r_iload_n (pc2 := 18) d_M_personBy_17 rfl rfl ?_
    refine q_icmp_ne (tgt := 23) (A := (I 762 (6 + 2 * i)).toInt) (B := key.toInt) (pc2 := 21) d_M_personBy_18 rfl rfl (rfl) (rfl) (fun c2 => ?_) (fun c2 => ?_)
    · refine q_iinc (b := 1) (pc2 := 26) d_M_personBy_23 rfl rfl (by decide) (Nat.le_of_ble_eq_true rfl) ?_
      refine r_goto (tgt := 2) d_M_personBy_26 rfl ?_
      refine Run.sub (l2 := [(0, .ref 761), (1, .int key), (2, .int (nI (i + 1)))]) ⟨rfl, rfl, rfl, trivial⟩ ?_
      exact ih (nP - (i + 1)) (by omega) (i + 1) rfl (by omega) (fun j hj => by
        rcases Nat.lt_or_ge j i with q | q
        · exact hinv j q
        · rw [show j = i by omega]; exact fun e => c2 (congrArg Int32.toInt e))
    · refine r_iload_n (pc2 := 22) d_M_personBy_21 rfl rfl ?_
      refine Run.ret (some (.int (nI i))) d_M_personBy_22 ⟨_, rfl⟩ ?_
      rw [show nI i = vo (pB (I 762) nP key) by unfold pB; rw [fst1_some (i := i) (fun j hj => decide_eq_false (hinv j hj)) (decide_eq_true (Int32.toInt_inj.mp c2)) (by omega)]; rfl]; exact hq
theorem c_M_personBy {d : Nat} {I : Nat → Nat → Int32} {R : Nat → Nat → Option Nat} {L : Nat → Nat → Int64} {sh : Nat → Nat × Nat} {N : Nat} (hS : ShOK sh) (hR : RfOK R) {nP : Nat} (hPc : I 762 0 = nI nP) (hP24 : nP ≤ 24) {key : Int32} (hd : 1 ≤ d) : Me mi_M_personBy d 0 0 [.ref 761, .int key] (I, R, L, sh, N) (some (.int (vo (pB (I 762) nP key)))) (I, R, L, sh, N) := by
  refine Mt.of pn_M (Nat.le_of_ble_eq_true rfl) ?_
  show Run mi_M_personBy d 0 0 0 [(0, .ref 761), (1, .int key)] [] (I, R, L, sh, N) _
  refine r_iconst (v := nI 0) (pc2 := 1) d_M_personBy_0 rfl (by decide) ?_
  refine r_istore_n (pc2 := 2) d_M_personBy_1 rfl rfl (Nat.le_of_ble_eq_true rfl) ?_
  refine Run.sub (l2 := [(0, .ref 761), (1, .int key), (2, .int (nI 0))]) ⟨rfl, rfl, rfl, trivial⟩ ?_
  exact l_M_personBy hS hR hPc hP24 hd ⟨rfl, rfl⟩ _ 0 rfl (by omega) (fun j hj => absurd hj (by omega))
