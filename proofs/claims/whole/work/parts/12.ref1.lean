/-! THE REFERENCE: small methods -/
theorem c_M_in {d : Nat} {a b c : Int64} {A B C : Int} (ha : a.toInt = A) (hb : b.toInt = B) (hc : c.toInt = C) {h : HS} : Me mi_M_in d 0 0 [.long a, .long b, .long c] h (some (.int (bI (B ≤ A ∧ A ≤ C)))) h := by
  refine Mt.of pn_M (Nat.le_of_ble_eq_true rfl) ?_
  show Run mi_M_in d 0 0 0 [(0, .long a), (2, .long b), (4, .long c)] [] h _
  refine r_lload_n (pc2 := 1) d_M_in_0 rfl rfl ?_
  refine r_lload_n (pc2 := 2) d_M_in_1 rfl rfl ?_
  refine r_lcmp (pc2 := 3) d_M_in_2 rfl ?_
  refine q_lif_lt (tgt := 17) (A := A) (B := B) (pc2 := 6) d_M_in_3 rfl rfl (ha) (hb) (fun c1 => ?_) (fun c1 => ?_)
  · refine r_iconst (v := nI 0) (pc2 := 18) d_M_in_17 rfl (by decide) ?_
    refine Run.ret (some (.int (nI 0))) d_M_in_18 ⟨_, rfl, by decide⟩ ?_
    exact ⟨by rw [bI_f (by omega)]; rfl, rfl⟩
  · refine r_lload_n (pc2 := 7) d_M_in_6 rfl rfl ?_
    refine r_lload (pc2 := 9) d_M_in_7 rfl rfl ?_
    refine r_lcmp (pc2 := 10) d_M_in_9 rfl ?_
    refine q_lif_gt (tgt := 17) (A := A) (B := C) (pc2 := 13) d_M_in_10 rfl rfl (ha) (hc) (fun c2 => ?_) (fun c2 => ?_)
    · refine r_iconst (v := nI 0) (pc2 := 18) d_M_in_17 rfl (by decide) ?_
      refine Run.ret (some (.int (nI 0))) d_M_in_18 ⟨_, rfl, by decide⟩ ?_
      exact ⟨by rw [bI_f (by omega)]; rfl, rfl⟩
    · refine r_iconst (v := nI 1) (pc2 := 14) d_M_in_13 rfl (by decide) ?_
      refine r_goto (tgt := 18) d_M_in_14 rfl ?_
      refine Run.ret (some (.int (nI 1))) d_M_in_18 ⟨_, rfl, by decide⟩ ?_
      exact ⟨by rw [bI_t (by omega)]; rfl, rfl⟩
theorem c_M_refused_0 {d : Nat} {I : Nat → Nat → Int32} {R : Nat → Nat → Option Nat} {L : Nat → Nat → Int64} {sh : Nat → Nat × Nat} {N : Nat} (hS : ShOK sh) (hR : RfOK R) : Me mi_M_refused d 0 0 [.ref 761, .int ((-32 : Int32))] (I, R, L, sh, N) (some (.int (-32 : Int32))) (u2 I 765 0 (I 765 0 + nI 1), R, L, sh, N) := by
  refine Mt.of pn_M (Nat.le_of_ble_eq_true rfl) ?_
  show Run mi_M_refused d 0 0 0 [(0, .ref 761), (1, .int ((-32 : Int32)))] [] (I, R, L, sh, N) _
  refine r_aload_n (x := some 761) (pc2 := 1) d_M_refused_0 rfl rfl ?_
  refine q_getR (x := some 765) (pc2 := 4) d_M_refused_1 rfl k_M_19 rfl (sh_761 hS) (rf_761_4 hR) ?_
  refine r_iload_n (pc2 := 5) d_M_refused_4 rfl rfl ?_
  refine r_ineg (pc2 := 6) d_M_refused_5 rfl ?_
  refine q_top (y := nI 32) (by decide) ?_
  refine r_bipush (v := nI 32) (pc2 := 8) d_M_refused_6 rfl (by decide) ?_
  refine q_isubN (pc2 := 9) d_M_refused_8 rfl (by omega) ?_
  refine r_dup2 (pc2 := 10) d_M_refused_9 rfl rfl rfl ?_
  refine q_iaload (q := 0) (x := I 765 0) (pc2 := 11) d_M_refused_10 rfl (sh_765 hS) (nI_toInt (by omega)) (by omega) rfl ?_
  refine r_iconst (v := nI 1) (pc2 := 12) d_M_refused_11 rfl (by decide) ?_
  refine r_iadd (pc2 := 13) d_M_refused_12 rfl ?_
  refine q_iastore (q := 0) (pc2 := 14) d_M_refused_13 rfl (sh_765 hS) (nI_toInt (by omega)) (by omega) (fun I1 hI1 => ?_)
  refine r_iload_n (pc2 := 15) d_M_refused_14 rfl rfl ?_
  refine Run.ret (some (.int ((-32 : Int32)))) d_M_refused_15 ⟨_, rfl⟩ ?_
  exact ⟨rfl, by rw [hI1]⟩
theorem c_M_refused_1 {d : Nat} {I : Nat → Nat → Int32} {R : Nat → Nat → Option Nat} {L : Nat → Nat → Int64} {sh : Nat → Nat × Nat} {N : Nat} (hS : ShOK sh) (hR : RfOK R) : Me mi_M_refused d 0 0 [.ref 761, .int ((-33 : Int32))] (I, R, L, sh, N) (some (.int (-33 : Int32))) (u2 I 765 1 (I 765 1 + nI 1), R, L, sh, N) := by
  refine Mt.of pn_M (Nat.le_of_ble_eq_true rfl) ?_
  show Run mi_M_refused d 0 0 0 [(0, .ref 761), (1, .int ((-33 : Int32)))] [] (I, R, L, sh, N) _
  refine r_aload_n (x := some 761) (pc2 := 1) d_M_refused_0 rfl rfl ?_
  refine q_getR (x := some 765) (pc2 := 4) d_M_refused_1 rfl k_M_19 rfl (sh_761 hS) (rf_761_4 hR) ?_
  refine r_iload_n (pc2 := 5) d_M_refused_4 rfl rfl ?_
  refine r_ineg (pc2 := 6) d_M_refused_5 rfl ?_
  refine q_top (y := nI 33) (by decide) ?_
  refine r_bipush (v := nI 32) (pc2 := 8) d_M_refused_6 rfl (by decide) ?_
  refine q_isubN (pc2 := 9) d_M_refused_8 rfl (by omega) ?_
  refine r_dup2 (pc2 := 10) d_M_refused_9 rfl rfl rfl ?_
  refine q_iaload (q := 1) (x := I 765 1) (pc2 := 11) d_M_refused_10 rfl (sh_765 hS) (nI_toInt (by omega)) (by omega) rfl ?_
  refine r_iconst (v := nI 1) (pc2 := 12) d_M_refused_11 rfl (by decide) ?_
  refine r_iadd (pc2 := 13) d_M_refused_12 rfl ?_
  refine q_iastore (q := 1) (pc2 := 14) d_M_refused_13 rfl (sh_765 hS) (nI_toInt (by omega)) (by omega) (fun I1 hI1 => ?_)
  refine r_iload_n (pc2 := 15) d_M_refused_14 rfl rfl ?_
  refine Run.ret (some (.int ((-33 : Int32)))) d_M_refused_15 ⟨_, rfl⟩ ?_
  exact ⟨rfl, by rw [hI1]⟩
theorem c_M_refused_2 {d : Nat} {I : Nat → Nat → Int32} {R : Nat → Nat → Option Nat} {L : Nat → Nat → Int64} {sh : Nat → Nat × Nat} {N : Nat} (hS : ShOK sh) (hR : RfOK R) : Me mi_M_refused d 0 0 [.ref 761, .int ((-34 : Int32))] (I, R, L, sh, N) (some (.int (-34 : Int32))) (u2 I 765 2 (I 765 2 + nI 1), R, L, sh, N) := by
  refine Mt.of pn_M (Nat.le_of_ble_eq_true rfl) ?_
  show Run mi_M_refused d 0 0 0 [(0, .ref 761), (1, .int ((-34 : Int32)))] [] (I, R, L, sh, N) _
  refine r_aload_n (x := some 761) (pc2 := 1) d_M_refused_0 rfl rfl ?_
  refine q_getR (x := some 765) (pc2 := 4) d_M_refused_1 rfl k_M_19 rfl (sh_761 hS) (rf_761_4 hR) ?_
  refine r_iload_n (pc2 := 5) d_M_refused_4 rfl rfl ?_
  refine r_ineg (pc2 := 6) d_M_refused_5 rfl ?_
  refine q_top (y := nI 34) (by decide) ?_
  refine r_bipush (v := nI 32) (pc2 := 8) d_M_refused_6 rfl (by decide) ?_
  refine q_isubN (pc2 := 9) d_M_refused_8 rfl (by omega) ?_
  refine r_dup2 (pc2 := 10) d_M_refused_9 rfl rfl rfl ?_
  refine q_iaload (q := 2) (x := I 765 2) (pc2 := 11) d_M_refused_10 rfl (sh_765 hS) (nI_toInt (by omega)) (by omega) rfl ?_
  refine r_iconst (v := nI 1) (pc2 := 12) d_M_refused_11 rfl (by decide) ?_
  refine r_iadd (pc2 := 13) d_M_refused_12 rfl ?_
  refine q_iastore (q := 2) (pc2 := 14) d_M_refused_13 rfl (sh_765 hS) (nI_toInt (by omega)) (by omega) (fun I1 hI1 => ?_)
  refine r_iload_n (pc2 := 15) d_M_refused_14 rfl rfl ?_
  refine Run.ret (some (.int ((-34 : Int32)))) d_M_refused_15 ⟨_, rfl⟩ ?_
  exact ⟨rfl, by rw [hI1]⟩
theorem c_M_refused_3 {d : Nat} {I : Nat → Nat → Int32} {R : Nat → Nat → Option Nat} {L : Nat → Nat → Int64} {sh : Nat → Nat × Nat} {N : Nat} (hS : ShOK sh) (hR : RfOK R) : Me mi_M_refused d 0 0 [.ref 761, .int ((-35 : Int32))] (I, R, L, sh, N) (some (.int (-35 : Int32))) (u2 I 765 3 (I 765 3 + nI 1), R, L, sh, N) := by
  refine Mt.of pn_M (Nat.le_of_ble_eq_true rfl) ?_
  show Run mi_M_refused d 0 0 0 [(0, .ref 761), (1, .int ((-35 : Int32)))] [] (I, R, L, sh, N) _
  refine r_aload_n (x := some 761) (pc2 := 1) d_M_refused_0 rfl rfl ?_
  refine q_getR (x := some 765) (pc2 := 4) d_M_refused_1 rfl k_M_19 rfl (sh_761 hS) (rf_761_4 hR) ?_
  refine r_iload_n (pc2 := 5) d_M_refused_4 rfl rfl ?_
  refine r_ineg (pc2 := 6) d_M_refused_5 rfl ?_
  refine q_top (y := nI 35) (by decide) ?_
  refine r_bipush (v := nI 32) (pc2 := 8) d_M_refused_6 rfl (by decide) ?_
  refine q_isubN (pc2 := 9) d_M_refused_8 rfl (by omega) ?_
  refine r_dup2 (pc2 := 10) d_M_refused_9 rfl rfl rfl ?_
  refine q_iaload (q := 3) (x := I 765 3) (pc2 := 11) d_M_refused_10 rfl (sh_765 hS) (nI_toInt (by omega)) (by omega) rfl ?_
  refine r_iconst (v := nI 1) (pc2 := 12) d_M_refused_11 rfl (by decide) ?_
  refine r_iadd (pc2 := 13) d_M_refused_12 rfl ?_
  refine q_iastore (q := 3) (pc2 := 14) d_M_refused_13 rfl (sh_765 hS) (nI_toInt (by omega)) (by omega) (fun I1 hI1 => ?_)
  refine r_iload_n (pc2 := 15) d_M_refused_14 rfl rfl ?_
  refine Run.ret (some (.int ((-35 : Int32)))) d_M_refused_15 ⟨_, rfl⟩ ?_
  exact ⟨rfl, by rw [hI1]⟩
theorem c_M_refused_4 {d : Nat} {I : Nat → Nat → Int32} {R : Nat → Nat → Option Nat} {L : Nat → Nat → Int64} {sh : Nat → Nat × Nat} {N : Nat} (hS : ShOK sh) (hR : RfOK R) : Me mi_M_refused d 0 0 [.ref 761, .int ((-36 : Int32))] (I, R, L, sh, N) (some (.int (-36 : Int32))) (u2 I 765 4 (I 765 4 + nI 1), R, L, sh, N) := by
  refine Mt.of pn_M (Nat.le_of_ble_eq_true rfl) ?_
  show Run mi_M_refused d 0 0 0 [(0, .ref 761), (1, .int ((-36 : Int32)))] [] (I, R, L, sh, N) _
  refine r_aload_n (x := some 761) (pc2 := 1) d_M_refused_0 rfl rfl ?_
  refine q_getR (x := some 765) (pc2 := 4) d_M_refused_1 rfl k_M_19 rfl (sh_761 hS) (rf_761_4 hR) ?_
  refine r_iload_n (pc2 := 5) d_M_refused_4 rfl rfl ?_
  refine r_ineg (pc2 := 6) d_M_refused_5 rfl ?_
  refine q_top (y := nI 36) (by decide) ?_
  refine r_bipush (v := nI 32) (pc2 := 8) d_M_refused_6 rfl (by decide) ?_
  refine q_isubN (pc2 := 9) d_M_refused_8 rfl (by omega) ?_
  refine r_dup2 (pc2 := 10) d_M_refused_9 rfl rfl rfl ?_
  refine q_iaload (q := 4) (x := I 765 4) (pc2 := 11) d_M_refused_10 rfl (sh_765 hS) (nI_toInt (by omega)) (by omega) rfl ?_
  refine r_iconst (v := nI 1) (pc2 := 12) d_M_refused_11 rfl (by decide) ?_
  refine r_iadd (pc2 := 13) d_M_refused_12 rfl ?_
  refine q_iastore (q := 4) (pc2 := 14) d_M_refused_13 rfl (sh_765 hS) (nI_toInt (by omega)) (by omega) (fun I1 hI1 => ?_)
  refine r_iload_n (pc2 := 15) d_M_refused_14 rfl rfl ?_
  refine Run.ret (some (.int ((-36 : Int32)))) d_M_refused_15 ⟨_, rfl⟩ ?_
  exact ⟨rfl, by rw [hI1]⟩
theorem c_M_of {d : Nat} {I : Nat → Nat → Int32} {R : Nat → Nat → Option Nat} {L : Nat → Nat → Int64} {sh : Nat → Nat × Nat} {N : Nat} (hS : ShOK sh) (hR : RfOK R) {F W : Nat} (hb : 174 + 84 * F + W < 1182) : Me mi_M_of d 0 0 [.ref 761, .int (nI F), .int (nI W)] (I, R, L, sh, N) (some (.int (I 762 (174 + 84 * F + W)))) (I, R, L, sh, N) := by
  refine Mt.of pn_M (Nat.le_of_ble_eq_true rfl) ?_
  show Run mi_M_of d 0 0 0 [(0, .ref 761), (1, .int (nI F)), (2, .int (nI W))] [] (I, R, L, sh, N) _
  refine r_aload_n (x := some 761) (pc2 := 1) d_M_of_0 rfl rfl ?_
  refine q_getR (x := some 762) (pc2 := 4) d_M_of_1 rfl k_M_9 rfl (sh_761 hS) (rf_761_0 hR) ?_
  refine r_sipush (v := nI 174) (pc2 := 7) d_M_of_4 rfl (by decide) ?_
  refine r_bipush (v := nI 84) (pc2 := 9) d_M_of_7 rfl (by decide) ?_
  refine r_iload_n (pc2 := 10) d_M_of_9 rfl rfl ?_
  refine q_imulN (pc2 := 11) d_M_of_10 rfl ?_
  refine q_iaddN (pc2 := 12) d_M_of_11 rfl ?_
  refine r_iload_n (pc2 := 13) d_M_of_12 rfl rfl ?_
  refine q_iaddN (pc2 := 14) d_M_of_13 rfl ?_
  refine q_iaload (q := 174 + 84 * F + W) (x := I 762 (174 + 84 * F + W)) (pc2 := 15) d_M_of_14 rfl (sh_762 hS) (nI_toInt (by omega)) (by omega) rfl ?_
  refine Run.ret (some (.int (I 762 (174 + 84 * F + W)))) d_M_of_15 ⟨_, rfl⟩ ?_
  exact ⟨rfl, rfl⟩
theorem c_M_is {d : Nat} {I : Nat → Nat → Int32} {R : Nat → Nat → Option Nat} {L : Nat → Nat → Int64} {sh : Nat → Nat × Nat} {N : Nat} (hS : ShOK sh) (hR : RfOK R) {F W : Nat} {v : Int32} (hb : 174 + 84 * F + W < 1182) : Me mi_M_is d 0 0 [.ref 761, .int (nI F), .int (nI W), .int v] (I, R, L, sh, N) none (u2 I 762 (174 + 84 * F + W) v, R, L, sh, N) := by
  refine Mt.of pn_M (Nat.le_of_ble_eq_true rfl) ?_
  show Run mi_M_is d 0 0 0 [(0, .ref 761), (1, .int (nI F)), (2, .int (nI W)), (3, .int v)] [] (I, R, L, sh, N) _
  refine r_aload_n (x := some 761) (pc2 := 1) d_M_is_0 rfl rfl ?_
  refine q_getR (x := some 762) (pc2 := 4) d_M_is_1 rfl k_M_9 rfl (sh_761 hS) (rf_761_0 hR) ?_
  refine r_sipush (v := nI 174) (pc2 := 7) d_M_is_4 rfl (by decide) ?_
  refine r_bipush (v := nI 84) (pc2 := 9) d_M_is_7 rfl (by decide) ?_
  refine r_iload_n (pc2 := 10) d_M_is_9 rfl rfl ?_
  refine q_imulN (pc2 := 11) d_M_is_10 rfl ?_
  refine q_iaddN (pc2 := 12) d_M_is_11 rfl ?_
  refine r_iload_n (pc2 := 13) d_M_is_12 rfl rfl ?_
  refine q_iaddN (pc2 := 14) d_M_is_13 rfl ?_
  refine r_iload_n (pc2 := 15) d_M_is_14 rfl rfl ?_
  refine q_iastore (q := 174 + 84 * F + W) (pc2 := 16) d_M_is_15 rfl (sh_762 hS) (nI_toInt (by omega)) (by omega) (fun I1 hI1 => ?_)
  refine Run.ret none d_M_is_16 rfl ?_
  exact ⟨rfl, by rw [hI1]⟩
theorem c_M_isFeature {d : Nat} {I : Nat → Nat → Int32} {R : Nat → Nat → Option Nat} {L : Nat → Nat → Int64} {sh : Nat → Nat × Nat} {N : Nat} (hS : ShOK sh) (hR : RfOK R) {nF : Nat} (hFc : I 762 1 = nI nF) (hF12 : nF ≤ 12) {f : Int32} (hd : 1 ≤ d) : Me mi_M_isFeature d 0 0 [.ref 761, .int f] (I, R, L, sh, N) (some (.int (bI (0 ≤ f.toInt ∧ f.toInt < nF)))) (I, R, L, sh, N) := by
  refine Mt.of pn_M (Nat.le_of_ble_eq_true rfl) ?_
  show Run mi_M_isFeature d 0 0 0 [(0, .ref 761), (1, .int f)] [] (I, R, L, sh, N) _
  refine r_iload_n (pc2 := 1) d_M_isFeature_0 rfl rfl ?_
  refine r_i2l (pc2 := 2) d_M_isFeature_1 rfl ?_
  refine r_lconst (v := (0 : Int64)) (pc2 := 3) d_M_isFeature_2 rfl (by decide) ?_
  refine r_aload_n (x := some 761) (pc2 := 4) d_M_isFeature_3 rfl rfl ?_
  refine q_getR (x := some 762) (pc2 := 7) d_M_isFeature_4 rfl k_M_9 rfl (sh_761 hS) (rf_761_0 hR) ?_
  refine r_iconst (v := nI 1) (pc2 := 8) d_M_isFeature_7 rfl (by decide) ?_
  refine q_iaload (q := 1) (x := nI nF) (pc2 := 9) d_M_isFeature_8 rfl (sh_762 hS) (nI_toInt (by omega)) (by omega) hFc ?_
  refine r_iconst (v := nI 1) (pc2 := 10) d_M_isFeature_9 rfl (by decide) ?_
  refine r_isub (pc2 := 11) d_M_isFeature_10 rfl ?_
  refine r_i2l (pc2 := 12) d_M_isFeature_11 rfl ?_
  refine q_calls (M2 := mi_M_in) (pc2 := 15) d_M_isFeature_12 rfl k_M_68 cm_M_in cs_M_in rfl rfl (Nat.le_of_ble_eq_true rfl) (c_M_in (A := f.toInt) (B := (0 : Int)) (C := ((nF : Nat) : Int) - ((1 : Nat) : Int)) (toInt64_toInt (rfl)) (by decide) (toInt64_toInt (nI_sub_toInt (by omega) (by omega)))) (d2 := d - 1) (by omega) (Nat.le_of_eq (Nat.zero_add _)) (Nat.le_of_eq (Nat.zero_add _)) ?_
  refine Run.ret (some (.int (bI ((0 : Int) ≤ f.toInt ∧ f.toInt ≤ ((nF : Nat) : Int) - ((1 : Nat) : Int))))) d_M_isFeature_15 ⟨_, rfl, bI_01 _⟩ ?_
  exact ⟨by rw [bI_congr (show _ ↔ (0 ≤ f.toInt ∧ f.toInt < nF) by omega)], rfl⟩
