/-! THE CLASS: conditions -/
theorem c_X_bucketBy {d : Nat} {h : HS} {s k : Int32} : Me mi_X_bucketBy d 0 0 [.int s, .int k] h (some (.int (bkt s k))) h := by
  refine Mt.of pn_X (Nat.le_of_ble_eq_true rfl) ?_
  show Run mi_X_bucketBy d 0 0 0 [(0, .int s), (1, .int k)] [] h _
  refine r_iload_n (pc2 := 1) d_X_bucketBy_0 rfl rfl ?_
  refine r_bipush (v := nI 101) (pc2 := 3) d_X_bucketBy_1 rfl (by decide) ?_
  refine r_iload_n (pc2 := 4) d_X_bucketBy_3 rfl rfl ?_
  refine r_imul (pc2 := 5) d_X_bucketBy_4 rfl ?_
  refine r_iadd (pc2 := 6) d_X_bucketBy_5 rfl ?_
  refine r_istore_n (pc2 := 7) d_X_bucketBy_6 rfl rfl (Nat.le_of_ble_eq_true rfl) ?_
  refine r_iload_n (pc2 := 8) d_X_bucketBy_7 rfl rfl ?_
  refine r_iload_n (pc2 := 9) d_X_bucketBy_8 rfl rfl ?_
  refine r_bipush (v := nI 16) (pc2 := 11) d_X_bucketBy_9 rfl (by decide) ?_
  refine r_iushr (pc2 := 12) d_X_bucketBy_11 rfl ?_
  refine r_ixor (pc2 := 13) d_X_bucketBy_12 rfl ?_
  refine r_ldcw (pc2 := 16) d_X_bucketBy_13 rfl k_X_447 ?_
  refine q_top (y := nI 73244475) (by decide) ?_
  refine r_imul (pc2 := 17) d_X_bucketBy_16 rfl ?_
  refine r_istore_n (pc2 := 18) d_X_bucketBy_17 rfl rfl (Nat.le_of_ble_eq_true rfl) ?_
  refine r_iload_n (pc2 := 19) d_X_bucketBy_18 rfl rfl ?_
  refine r_iload_n (pc2 := 20) d_X_bucketBy_19 rfl rfl ?_
  refine r_bipush (v := nI 16) (pc2 := 22) d_X_bucketBy_20 rfl (by decide) ?_
  refine r_iushr (pc2 := 23) d_X_bucketBy_22 rfl ?_
  refine r_ixor (pc2 := 24) d_X_bucketBy_23 rfl ?_
  refine r_ldcw (pc2 := 27) d_X_bucketBy_24 rfl k_X_447 ?_
  refine q_top (y := nI 73244475) (by decide) ?_
  refine r_imul (pc2 := 28) d_X_bucketBy_27 rfl ?_
  refine r_istore_n (pc2 := 29) d_X_bucketBy_28 rfl rfl (Nat.le_of_ble_eq_true rfl) ?_
  refine r_iload_n (pc2 := 30) d_X_bucketBy_29 rfl rfl ?_
  refine r_iload_n (pc2 := 31) d_X_bucketBy_30 rfl rfl ?_
  refine r_bipush (v := nI 16) (pc2 := 33) d_X_bucketBy_31 rfl (by decide) ?_
  refine r_iushr (pc2 := 34) d_X_bucketBy_33 rfl ?_
  refine r_ixor (pc2 := 35) d_X_bucketBy_34 rfl ?_
  refine r_istore_n (pc2 := 36) d_X_bucketBy_35 rfl rfl (Nat.le_of_ble_eq_true rfl) ?_
  refine r_iload_n (pc2 := 37) d_X_bucketBy_36 rfl rfl ?_
  refine r_iconst (v := nI 1) (pc2 := 38) d_X_bucketBy_37 rfl (by decide) ?_
  refine r_iushr (pc2 := 39) d_X_bucketBy_38 rfl ?_
  refine r_sipush (v := nI 1000) (pc2 := 42) d_X_bucketBy_39 rfl (by decide) ?_
  refine r_irem (pc2 := 43) d_X_bucketBy_42 rfl (by decide) ?_
  refine Run.ret (some (.int (((((((((k + ((nI 101) * s)) ^^^ (((k + ((nI 101) * s)).toUInt32 >>> ((nI 16).toUInt32 &&& Int32.toUInt32 31)).toInt32)) * (nI 73244475)) ^^^ (((((k + ((nI 101) * s)) ^^^ (((k + ((nI 101) * s)).toUInt32 >>> ((nI 16).toUInt32 &&& Int32.toUInt32 31)).toInt32)) * (nI 73244475)).toUInt32 >>> ((nI 16).toUInt32 &&& Int32.toUInt32 31)).toInt32)) * (nI 73244475)) ^^^ (((((((k + ((nI 101) * s)) ^^^ (((k + ((nI 101) * s)).toUInt32 >>> ((nI 16).toUInt32 &&& Int32.toUInt32 31)).toInt32)) * (nI 73244475)) ^^^ (((((k + ((nI 101) * s)) ^^^ (((k + ((nI 101) * s)).toUInt32 >>> ((nI 16).toUInt32 &&& Int32.toUInt32 31)).toInt32)) * (nI 73244475)).toUInt32 >>> ((nI 16).toUInt32 &&& Int32.toUInt32 31)).toInt32)) * (nI 73244475)).toUInt32 >>> ((nI 16).toUInt32 &&& Int32.toUInt32 31)).toInt32)).toUInt32 >>> ((nI 1).toUInt32 &&& Int32.toUInt32 31)).toInt32) - ((((((((k + ((nI 101) * s)) ^^^ (((k + ((nI 101) * s)).toUInt32 >>> ((nI 16).toUInt32 &&& Int32.toUInt32 31)).toInt32)) * (nI 73244475)) ^^^ (((((k + ((nI 101) * s)) ^^^ (((k + ((nI 101) * s)).toUInt32 >>> ((nI 16).toUInt32 &&& Int32.toUInt32 31)).toInt32)) * (nI 73244475)).toUInt32 >>> ((nI 16).toUInt32 &&& Int32.toUInt32 31)).toInt32)) * (nI 73244475)) ^^^ (((((((k + ((nI 101) * s)) ^^^ (((k + ((nI 101) * s)).toUInt32 >>> ((nI 16).toUInt32 &&& Int32.toUInt32 31)).toInt32)) * (nI 73244475)) ^^^ (((((k + ((nI 101) * s)) ^^^ (((k + ((nI 101) * s)).toUInt32 >>> ((nI 16).toUInt32 &&& Int32.toUInt32 31)).toInt32)) * (nI 73244475)).toUInt32 >>> ((nI 16).toUInt32 &&& Int32.toUInt32 31)).toInt32)) * (nI 73244475)).toUInt32 >>> ((nI 16).toUInt32 &&& Int32.toUInt32 31)).toInt32)).toUInt32 >>> ((nI 1).toUInt32 &&& Int32.toUInt32 31)).toInt32) / (nI 1000) * (nI 1000)))) d_X_bucketBy_43 ⟨_, rfl⟩ ?_
  exact ⟨rfl, rfl⟩
theorem c_X_firstBucket {d : Nat} {h : HS} {v : Nat} (hv : 1 ≤ v) (hv2 : v ≤ 3) : Me mi_X_firstBucket d 0 0 [.int (nI v)] h (some (.int (nI (333 * (v - 1))))) h := by
  refine Mt.of pn_X (Nat.le_of_ble_eq_true rfl) ?_
  show Run mi_X_firstBucket d 0 0 0 [(0, .int (nI v))] [] h _
  refine r_sipush (v := nI 333) (pc2 := 3) d_X_firstBucket_0 rfl (by decide) ?_
  refine r_iload_n (pc2 := 4) d_X_firstBucket_3 rfl rfl ?_
  refine r_iconst (v := nI 1) (pc2 := 5) d_X_firstBucket_4 rfl (by decide) ?_
  refine q_isubN (pc2 := 6) d_X_firstBucket_5 rfl (by omega) ?_
  refine q_imulN (pc2 := 7) d_X_firstBucket_6 rfl ?_
  refine Run.ret (some (.int (nI (333 * (v - 1))))) d_X_firstBucket_7 ⟨_, rfl⟩ ?_
  exact ⟨rfl, rfl⟩
theorem c_X_hasBit {d : Nat} {h : HS} {x : Int32} {i : Nat} (hi : i < 32) : Me mi_X_hasBit d 0 0 [.int x, .int (nI i)] h (some (.int (bI (bt x i = true)))) h := by
  refine Mt.of pn_X (Nat.le_of_ble_eq_true rfl) ?_
  show Run mi_X_hasBit d 0 0 0 [(0, .int x), (1, .int (nI i))] [] h _
  refine r_iload_n (pc2 := 1) d_X_hasBit_0 rfl rfl ?_
  refine r_iload_n (pc2 := 2) d_X_hasBit_1 rfl rfl ?_
  refine r_iushr (pc2 := 3) d_X_hasBit_2 rfl ?_
  refine r_iconst (v := nI 1) (pc2 := 4) d_X_hasBit_3 rfl (by decide) ?_
  refine r_iand (pc2 := 5) d_X_hasBit_4 rfl ?_
  rw [b_testu (x := x) (i := i) hi]
  by_cases hb : bt x i = true
  · rw [if_pos hb]
    refine r_iconst (v := nI 1) (pc2 := 6) d_X_hasBit_5 rfl (by decide) ?_
    refine q_icmp_ne (tgt := 13) (A := (1 : Int)) (B := (1 : Int)) (pc2 := 9) d_X_hasBit_6 rfl rfl (nI_toInt (by omega)) (nI_toInt (by omega)) (fun c1 => ?_) (fun c1 => ?_)
    · exfalso; omega
    refine r_iconst (v := nI 1) (pc2 := 10) d_X_hasBit_9 rfl (by decide) ?_
    refine r_goto (tgt := 14) d_X_hasBit_10 rfl ?_
    refine Run.ret (some (.int (nI 1))) d_X_hasBit_14 ⟨_, rfl, by decide⟩ ?_
    exact ⟨by rw [bI_t hb]; rfl, rfl⟩
  · rw [if_neg hb]
    refine r_iconst (v := nI 1) (pc2 := 6) d_X_hasBit_5 rfl (by decide) ?_
    refine q_icmp_ne (tgt := 13) (A := (0 : Int)) (B := (1 : Int)) (pc2 := 9) d_X_hasBit_6 rfl rfl (nI_toInt (by omega)) (nI_toInt (by omega)) (fun c2 => ?_) (fun c2 => ?_)
    rotate_left
    · exfalso; omega
    refine r_iconst (v := nI 0) (pc2 := 14) d_X_hasBit_13 rfl (by decide) ?_
    refine Run.ret (some (.int (nI 0))) d_X_hasBit_14 ⟨_, rfl, by decide⟩ ?_
    exact ⟨by rw [bI_f hb]; rfl, rfl⟩
theorem c_Co_isTestSo {d : Nat} {h : HS} {v : Nat} (hv : v < 10) {s c : Int32} : Me mi_Co_isTestSo d 0 0 [.int (nI v), .int s, .int c] h (some (.int (bI (tst s v c = true)))) h := by
  refine Mt.of pn_Co (Nat.le_of_ble_eq_true rfl) ?_
  show Run mi_Co_isTestSo d 0 0 0 [(0, .int (nI v)), (1, .int s), (2, .int c)] [] h _
  refine r_iload_n (pc2 := 1) d_Co_isTestSo_0 rfl rfl ?_
  refine r_bipush (v := nI 60) (pc2 := 3) d_Co_isTestSo_1 rfl (by decide) ?_
  refine q_icmp_ne (tgt := 17) (A := s.toInt) (B := (60 : Int)) (pc2 := 6) d_Co_isTestSo_3 rfl rfl (rfl) (nI_toInt (by omega)) (fun c1 => ?_) (fun c1 => ?_)
  · refine r_iload_n (pc2 := 18) d_Co_isTestSo_17 rfl rfl ?_
    refine r_bipush (v := nI 61) (pc2 := 20) d_Co_isTestSo_18 rfl (by decide) ?_
    refine q_icmp_ne (tgt := 36) (A := s.toInt) (B := (61 : Int)) (pc2 := 23) d_Co_isTestSo_20 rfl rfl (rfl) (nI_toInt (by omega)) (fun c2 => ?_) (fun c2 => ?_)
    · refine r_iload_n (pc2 := 37) d_Co_isTestSo_36 rfl rfl ?_
      refine r_iload_n (pc2 := 38) d_Co_isTestSo_37 rfl rfl ?_
      refine q_icmp_le (tgt := 45) (A := ((v : Nat) : Int)) (B := c.toInt) (pc2 := 41) d_Co_isTestSo_38 rfl rfl (nI_toInt (by omega)) (rfl) (fun c3 => ?_) (fun c3 => ?_)
      · refine r_iconst (v := nI 0) (pc2 := 46) d_Co_isTestSo_45 rfl (by decide) ?_
        refine Run.ret (some (.int (nI 0))) d_Co_isTestSo_46 ⟨_, rfl, by decide⟩ ?_
        exact ⟨by rw [bI_f (by rw [tst_iff]; omega)]; rfl, rfl⟩
      · refine r_iconst (v := nI 1) (pc2 := 42) d_Co_isTestSo_41 rfl (by decide) ?_
        refine r_goto (tgt := 46) d_Co_isTestSo_42 rfl ?_
        refine Run.ret (some (.int (nI 1))) d_Co_isTestSo_46 ⟨_, rfl, by decide⟩ ?_
        exact ⟨by rw [bI_t (by rw [tst_iff]; omega)]; rfl, rfl⟩
    · refine r_iload_n (pc2 := 24) d_Co_isTestSo_23 rfl rfl ?_
      refine r_iload_n (pc2 := 25) d_Co_isTestSo_24 rfl rfl ?_
      refine q_icmp_ne (tgt := 32) (A := ((v : Nat) : Int)) (B := c.toInt) (pc2 := 28) d_Co_isTestSo_25 rfl rfl (nI_toInt (by omega)) (rfl) (fun c4 => ?_) (fun c4 => ?_)
      · refine r_iconst (v := nI 0) (pc2 := 33) d_Co_isTestSo_32 rfl (by decide) ?_
        refine r_goto (tgt := 46) d_Co_isTestSo_33 rfl ?_
        refine Run.ret (some (.int (nI 0))) d_Co_isTestSo_46 ⟨_, rfl, by decide⟩ ?_
        exact ⟨by rw [bI_f (by rw [tst_iff]; omega)]; rfl, rfl⟩
      · refine r_iconst (v := nI 1) (pc2 := 29) d_Co_isTestSo_28 rfl (by decide) ?_
        refine r_goto (tgt := 46) d_Co_isTestSo_29 rfl ?_
        refine Run.ret (some (.int (nI 1))) d_Co_isTestSo_46 ⟨_, rfl, by decide⟩ ?_
        exact ⟨by rw [bI_t (by rw [tst_iff]; omega)]; rfl, rfl⟩
  · refine r_iload_n (pc2 := 7) d_Co_isTestSo_6 rfl rfl ?_
    refine r_iload_n (pc2 := 8) d_Co_isTestSo_7 rfl rfl ?_
    refine q_icmp_ge (tgt := 15) (A := ((v : Nat) : Int)) (B := c.toInt) (pc2 := 11) d_Co_isTestSo_8 rfl rfl (nI_toInt (by omega)) (rfl) (fun c5 => ?_) (fun c5 => ?_)
    · refine r_iconst (v := nI 0) (pc2 := 16) d_Co_isTestSo_15 rfl (by decide) ?_
      refine Run.ret (some (.int (nI 0))) d_Co_isTestSo_16 ⟨_, rfl, by decide⟩ ?_
      exact ⟨by rw [bI_f (by rw [tst_iff]; omega)]; rfl, rfl⟩
    · refine r_iconst (v := nI 1) (pc2 := 12) d_Co_isTestSo_11 rfl (by decide) ?_
      refine r_goto (tgt := 16) d_Co_isTestSo_12 rfl ?_
      refine Run.ret (some (.int (nI 1))) d_Co_isTestSo_16 ⟨_, rfl, by decide⟩ ?_
      exact ⟨by rw [bI_t (by rw [tst_iff]; omega)]; rfl, rfl⟩
theorem dg_c {a w v : Nat} (ha : a ≤ 9999) (h : (w = 0 ∧ v = a / 1000) ∨ (w = 1 ∧ v = a / 100 % 10) ∨ (w = 2 ∧ v = a / 10 % 10) ∨ (w = 3 ∧ v = a % 10)) : v = a / 10 ^ (3 - w) % 10 := by
  rcases h with ⟨rfl, rfl⟩ | ⟨rfl, rfl⟩ | ⟨rfl, rfl⟩ | ⟨rfl, rfl⟩
  · show a / 1000 = a / 1000 % 10; omega
  · rfl
  · rfl
  · show a % 10 = a / 1 % 10; rw [Nat.div_one]
theorem c_Co_digitOf {d : Nat} {h : HS} {a w : Nat} (ha : a ≤ 9999) (hw : w ≤ 3) : Me mi_Co_digitOf d 0 0 [.int (nI a), .int (nI w)] h (some (.int (nI (a / 10 ^ (3 - w) % 10)))) h := by
  refine Mt.of pn_Co (Nat.le_of_ble_eq_true rfl) ?_
  show Run mi_Co_digitOf d 0 0 0 [(0, .int (nI a)), (1, .int (nI w))] [] h _
  refine r_iload_n (pc2 := 1) d_Co_digitOf_0 rfl rfl ?_
  refine q_switch (tgt := 50) (A := ((w : Nat) : Int)) d_Co_digitOf_1 rfl (nI_toInt (by omega)) (fun off t2 c1a c1b c1o c1t => ?_) (by decide) (by decide) (fun c1 => ?_)
  · have c1c : ((w : Nat) : Int) = 0 ∨ ((w : Nat) : Int) = 1 ∨ ((w : Nat) : Int) = 2 := by omega
    rcases c1c with c1e | c1e | c1e
    · obtain rfl : t2 = 28 := by
        have hh : (some (27 : Int)) = some off := by rw [c1e] at c1o; exact c1o
        cases hh; omega
      refine r_iload_n (pc2 := 29) d_Co_digitOf_28 rfl rfl ?_
      refine r_sipush (v := nI 1000) (pc2 := 32) d_Co_digitOf_29 rfl (by decide) ?_
      refine q_idivN (pc2 := 33) d_Co_digitOf_32 rfl (by omega) (by decide) (by decide) ?_
      refine Run.ret (some (.int (nI (a / 1000)))) d_Co_digitOf_33 ⟨_, rfl⟩ ?_
      exact ⟨congrArg (fun z => some (Value.int (nI z))) (dg_c ha (by omega)), rfl⟩
    · obtain rfl : t2 = 34 := by
        have hh : (some (33 : Int)) = some off := by rw [c1e] at c1o; exact c1o
        cases hh; omega
      refine r_iload_n (pc2 := 35) d_Co_digitOf_34 rfl rfl ?_
      refine r_bipush (v := nI 100) (pc2 := 37) d_Co_digitOf_35 rfl (by decide) ?_
      refine q_idivN (pc2 := 38) d_Co_digitOf_37 rfl (by omega) (by decide) (by decide) ?_
      refine r_bipush (v := nI 10) (pc2 := 40) d_Co_digitOf_38 rfl (by decide) ?_
      refine q_iremN (pc2 := 41) d_Co_digitOf_40 rfl (by omega) (by decide) (by decide) ?_
      refine Run.ret (some (.int (nI ((a / 100) % 10)))) d_Co_digitOf_41 ⟨_, rfl⟩ ?_
      exact ⟨congrArg (fun z => some (Value.int (nI z))) (dg_c ha (by omega)), rfl⟩
    · obtain rfl : t2 = 42 := by
        have hh : (some (41 : Int)) = some off := by rw [c1e] at c1o; exact c1o
        cases hh; omega
      refine r_iload_n (pc2 := 43) d_Co_digitOf_42 rfl rfl ?_
      refine r_bipush (v := nI 10) (pc2 := 45) d_Co_digitOf_43 rfl (by decide) ?_
      refine q_idivN (pc2 := 46) d_Co_digitOf_45 rfl (by omega) (by decide) (by decide) ?_
      refine r_bipush (v := nI 10) (pc2 := 48) d_Co_digitOf_46 rfl (by decide) ?_
      refine q_iremN (pc2 := 49) d_Co_digitOf_48 rfl (by omega) (by decide) (by decide) ?_
      refine Run.ret (some (.int (nI ((a / 10) % 10)))) d_Co_digitOf_49 ⟨_, rfl⟩ ?_
      exact ⟨congrArg (fun z => some (Value.int (nI z))) (dg_c ha (by omega)), rfl⟩
  · refine r_iload_n (pc2 := 51) d_Co_digitOf_50 rfl rfl ?_
    refine r_bipush (v := nI 10) (pc2 := 53) d_Co_digitOf_51 rfl (by decide) ?_
    refine q_iremN (pc2 := 54) d_Co_digitOf_53 rfl (by omega) (by decide) (by decide) ?_
    refine Run.ret (some (.int (nI (a % 10)))) d_Co_digitOf_54 ⟨_, rfl⟩ ?_
    exact ⟨congrArg (fun z => some (Value.int (nI z))) (dg_c ha (by omega)), rfl⟩
theorem c_Co_truthAt {d : Nat} {I : Nat → Nat → Int32} {R : Nat → Nat → Option Nat} {L : Nat → Nat → Int64} {sh : Nat → Nat × Nat} {N : Nat} {c m : Nat} (h0 : sh c = (1, 0)) (h5 : sh (c + 5) = (14, m)) (hr : R c 4 = some (c + 5)) (hm : m ≤ 250) {x : Nat} (hx : x < m) {p : Prop} [Decidable p] (hp : I (c + 5) x = bI p) : Me mi_Co_truthAt d 0 0 [.ref c, .int (nI x)] (I, R, L, sh, N) (some (.int (bI p))) (I, R, L, sh, N) := by
  refine Mt.of pn_Co (Nat.le_of_ble_eq_true rfl) ?_
  show Run mi_Co_truthAt d 0 0 0 [(0, .ref c), (1, .int (nI x))] [] (I, R, L, sh, N) _
  refine r_iload_n (pc2 := 1) d_Co_truthAt_0 rfl rfl ?_
  refine q_if_lt (tgt := 26) (A := ((x : Nat) : Int)) (pc2 := 4) d_Co_truthAt_1 rfl rfl (nI_toInt (by omega)) (fun c1 => ?_) (fun c1 => ?_)
  · exfalso; omega
  refine r_iload_n (pc2 := 5) d_Co_truthAt_4 rfl rfl ?_
  refine r_aload_n (x := some c) (pc2 := 6) d_Co_truthAt_5 rfl rfl ?_
  refine q_getR (x := some (c + 5)) (pc2 := 9) d_Co_truthAt_6 rfl k_Co_30 rfl h0 hr ?_
  refine r_alen (pc2 := 10) d_Co_truthAt_9 rfl h5 (by decide) (by decide) ?_
  refine q_icmp_ge (tgt := 26) (A := ((x : Nat) : Int)) (B := ((m : Nat) : Int)) (pc2 := 13) d_Co_truthAt_10 rfl rfl (nI_toInt (by omega)) (nI_toInt (by omega)) (fun c2 => ?_) (fun c2 => ?_)
  · refine r_iconst (v := nI 0) (pc2 := 27) d_Co_truthAt_26 rfl (by decide) ?_
    refine Run.ret (some (.int (nI 0))) d_Co_truthAt_27 ⟨_, rfl, by decide⟩ ?_
    first | (exfalso; omega) | exact ⟨by rw [bI_f c2]; rfl, rfl⟩
  · refine r_aload_n (x := some c) (pc2 := 14) d_Co_truthAt_13 rfl rfl ?_
    refine q_getR (x := some (c + 5)) (pc2 := 17) d_Co_truthAt_14 rfl k_Co_30 rfl h0 hr ?_
    refine r_iload_n (pc2 := 18) d_Co_truthAt_17 rfl rfl ?_
    refine q_baload (q := x) (x := bI p) (pc2 := 19) d_Co_truthAt_18 rfl h5 (nI_toInt (by omega)) (by omega) hp ?_
    refine q_bif_eq (tgt := 26) (pc2 := 22) d_Co_truthAt_19 rfl rfl (fun c3 => ?_) (fun c3 => ?_)
    · refine r_iconst (v := nI 0) (pc2 := 27) d_Co_truthAt_26 rfl (by decide) ?_
      refine Run.ret (some (.int (nI 0))) d_Co_truthAt_27 ⟨_, rfl, by decide⟩ ?_
      first | (exfalso; omega) | exact ⟨by rw [bI_f c3]; rfl, rfl⟩
    · refine r_iconst (v := nI 1) (pc2 := 23) d_Co_truthAt_22 rfl (by decide) ?_
      refine r_goto (tgt := 27) d_Co_truthAt_23 rfl ?_
      refine Run.ret (some (.int (nI 1))) d_Co_truthAt_27 ⟨_, rfl, by decide⟩ ?_
      first | (exfalso; omega) | exact ⟨by rw [bI_t c3]; rfl, rfl⟩
theorem bI_not {p : Prop} [Decidable p] {b : Bool} : (b = true ↔ ¬ p) → bI (b = true) = bI (¬ p) := fun h => bI_congr h
theorem l_Co_isSo {d : Nat} {I : Nat → Nat → Int32} {R : Nat → Nat → Option Nat} {L : Nat → Nat → Int64} {sh : Nat → Nat × Nat} {N : Nat} {tK tF tC tS : Nat → Int32} {nt : Nat} (hV : TV tK tF tC nt) (hV2 : TV2 tK tF tC tS nt) {c m b : Nat} (hC : CO tK tF tC tS I R sh c m b) (hbn : b + m ≤ nt) (hnt6 : nt ≤ 1000000) {n : Nat} (hn : n < m) {key : Int32} {att : Nat} (ha : att ≤ 9999) {Q : Option Value → HS → Prop} (hq : ∀ J, (∀ a, a ≠ c + 5 → J a = I a) → Q (some (.int (bI (trt tK tF tC tS key att (b + n) = true)))) (J, R, L, sh, N)) (hd : 2 ≤ d) : ∀ (n_ : Nat) (i : Nat) (J : Nat → Nat → Int32), n + 1 - i = n_ → (∀ j, j < i → J (c + 5) j = bI (trt tK tF tC tS key att (b + j) = true)) → (∀ a, a ≠ c + 5 → J a = I a) → (i ≤ n + 1) → Run mi_Co_isSo d 0 0 18 [(0, .ref c), (1, .int (nI n)), (2, .int key), (3, .int (nI att)), (4, .int (nI i))] [] (J, R, L, sh, N) Q := by
  intro n_
  induction n_ using Nat.strongRecOn with | ind n_ ih_ => ?_
  intro i J hn_ v0_ v1_ v2_
  have h1 : J (c + 1) = I (c + 1) := v1_ _ (by omega)
  have h2 : J (c + 2) = I (c + 2) := v1_ _ (by omega)
  have h3 : J (c + 3) = I (c + 3) := v1_ _ (by omega)
  have h4 : J (c + 4) = I (c + 4) := v1_ _ (by omega)
  have hbm := hC.2.2.1.2
  refine r_iload (pc2 := 20) d_Co_isSo_18 rfl rfl ?_
  refine r_iload_n (pc2 := 21) d_Co_isSo_20 rfl rfl ?_
  refine q_icmp_gt (tgt := 272) (A := ((i : Nat) : Int)) (B := ((n : Nat) : Int)) (pc2 := 24) d_Co_isSo_21 rfl rfl (nI_toInt (by omega)) (nI_toInt (by omega)) (fun c1 => ?_) (fun c1 => ?_)
  · refine r_aload_n (x := some c) (pc2 := 273) d_Co_isSo_272 rfl rfl ?_
    refine q_getR (x := some (c + 5)) (pc2 := 276) d_Co_isSo_273 rfl k_Co_30 rfl (hC.1.1) hC.2.1.2.2.2.2 ?_
    refine r_iload_n (pc2 := 277) d_Co_isSo_276 rfl rfl ?_
    refine q_baload (q := n) (x := bI (trt tK tF tC tS key att (b + n) = true)) (pc2 := 278) d_Co_isSo_277 rfl (hC.1.2.2.2.2.2) (nI_toInt (by omega)) (by omega) (v0_ n (by omega)) ?_
    refine Run.ret (some (.int (bI (trt tK tF tC tS key att (b + n) = true)))) d_Co_isSo_278 ⟨_, rfl, bI_01 _⟩ ?_
    exact hq J v1_
  · refine r_aload_n (x := some c) (pc2 := 25) d_Co_isSo_24 rfl rfl ?_
    refine q_getR (x := some (c + 1)) (pc2 := 28) d_Co_isSo_25 rfl k_Co_15 rfl (hC.1.1) hC.2.1.1 ?_
    refine r_iload (pc2 := 30) d_Co_isSo_28 rfl rfl ?_
    refine q_iaload (q := i) (x := I (c + 1) i) (pc2 := 31) d_Co_isSo_30 rfl (hC.1.2.1) (nI_toInt (by omega)) (by omega) (congrFun h1 _) ?_
    obtain ⟨y1, y2, y3, y4, y5⟩ := hC.2.2.2.2 i (by omega)
    obtain ⟨⟨t1, t2⟩, ⟨t3, t4⟩, t5, t6⟩ := hV (b + i) (by omega)
    have e9 : I (c + 1) i = tK (b + i) := y1
    rw [y1]
    have hbm := hC.2.2.1.2
    refine q_switch (tgt := 258) (A := (tK (b + i)).toInt) d_Co_isSo_31 rfl (rfl) (fun off t2 c2a c2b c2o c2t => ?_) (by decide) (by decide) (fun c2 => ?_)
    · have c2c : (tK (b + i)).toInt = 3 ∨ (tK (b + i)).toInt = 4 ∨ (tK (b + i)).toInt = 5 ∨ (tK (b + i)).toInt = 6 ∨ (tK (b + i)).toInt = 7 ∨ (tK (b + i)).toInt = 8 := by omega
      rcases c2c with c2e | c2e | c2e | c2e | c2e | c2e
      · obtain rfl : t2 = 68 := by
          have hh : (some (37 : Int)) = some off := by rw [c2e] at c2o; exact c2o
          cases hh; omega
        have hk3 : (tK (b + i)).toInt = 3 := by omega
        obtain ⟨x, x1, x2, x3⟩ := y2 hk3
        clear y2 y3 y4 y5
        have e := trt_3 (S := tS) (key := key) (att := att) hV (show b + i < nt by omega) hk3
        rw [x3, nI_toInt (by omega), Int.toNat_natCast] at e
        refine r_aload_n (x := some c) (pc2 := 69) d_Co_isSo_68 rfl rfl ?_
        refine q_getR (x := some (c + 5)) (pc2 := 72) d_Co_isSo_69 rfl k_Co_30 rfl (hC.1.1) hC.2.1.2.2.2.2 ?_
        refine r_iload (pc2 := 74) d_Co_isSo_72 rfl rfl ?_
        refine r_aload_n (x := some c) (pc2 := 75) d_Co_isSo_74 rfl rfl ?_
        refine r_aload_n (x := some c) (pc2 := 76) d_Co_isSo_75 rfl rfl ?_
        refine q_getR (x := some (c + 2)) (pc2 := 79) d_Co_isSo_76 rfl k_Co_21 rfl (hC.1.1) hC.2.1.2.1 ?_
        refine r_iload (pc2 := 81) d_Co_isSo_79 rfl rfl ?_
        refine q_iaload (q := i) (x := nI x) (pc2 := 82) d_Co_isSo_81 rfl (hC.1.2.2.1) (nI_toInt (by omega)) (by omega) ((congrFun h2 _).trans (x2)) ?_
        refine q_callv (M2 := mi_Co_truthAt) (pc2 := 85) d_Co_isSo_82 rfl k_Co_38 cm_Co_truthAt cv_Co_truthAt (hC.1.1) (by decide) rfl rfl rfl (Nat.le_of_ble_eq_true rfl) (c_Co_truthAt (I := J) hC.1.1 hC.1.2.2.2.2.2 hC.2.1.2.2.2.2 hC.2.2.1.2 (x := x) (by omega) (v0_ x (by omega))) (d2 := d - 1) (by omega) (Nat.le_of_eq (Nat.zero_add _)) (Nat.le_of_eq (Nat.zero_add _)) ?_
        refine q_bif_ne (tgt := 92) (pc2 := 88) d_Co_isSo_85 rfl rfl (fun c3 => ?_) (fun c3 => ?_)
        · refine r_iconst (v := nI 0) (pc2 := 93) d_Co_isSo_92 rfl (by decide) ?_
          refine q_bastore (q := i) (pc2 := 94) d_Co_isSo_93 rfl (hC.1.2.2.2.2.2) (nI_toInt (by omega)) (by omega) (by decide) (fun I4 hI4 => ?_)
          refine r_goto (tgt := 266) d_Co_isSo_94 rfl ?_
          refine q_iinc (b := 1) (pc2 := 269) d_Co_isSo_266 rfl rfl (by decide) (Nat.le_of_ble_eq_true rfl) ?_
          refine r_goto (tgt := 18) d_Co_isSo_269 rfl ?_
          refine Run.sub (l2 := [(0, .ref c), (1, .int (nI n)), (2, .int key), (3, .int (nI att)), (4, .int (nI (i + 1)))]) ⟨rfl, rfl, rfl, rfl, rfl, trivial⟩ ?_
          exact ih_ (n + 1 - (i + 1)) (by omega) (i + 1) I4 rfl (fun j hj => by
            rcases Nat.lt_or_ge j i with q | q
            · rw [rd_nk hI4 (by omega)]; exact v0_ j q
            · rw [show j = i by omega]; rw [rd_eq hI4, bI_f (by rw [e] <;> first | rfl | (simp [c3]; done) | (simp; omega))]; (try rfl)) (fun a ha => by rw [hI4]; funext q; rw [u2_ne ha, v1_ a ha]) (by omega)
        · refine r_iconst (v := nI 1) (pc2 := 89) d_Co_isSo_88 rfl (by decide) ?_
          refine r_goto (tgt := 93) d_Co_isSo_89 rfl ?_
          refine q_bastore (q := i) (pc2 := 94) d_Co_isSo_93 rfl (hC.1.2.2.2.2.2) (nI_toInt (by omega)) (by omega) (by decide) (fun I5 hI5 => ?_)
          refine r_goto (tgt := 266) d_Co_isSo_94 rfl ?_
          refine q_iinc (b := 1) (pc2 := 269) d_Co_isSo_266 rfl rfl (by decide) (Nat.le_of_ble_eq_true rfl) ?_
          refine r_goto (tgt := 18) d_Co_isSo_269 rfl ?_
          refine Run.sub (l2 := [(0, .ref c), (1, .int (nI n)), (2, .int key), (3, .int (nI att)), (4, .int (nI (i + 1)))]) ⟨rfl, rfl, rfl, rfl, rfl, trivial⟩ ?_
          exact ih_ (n + 1 - (i + 1)) (by omega) (i + 1) I5 rfl (fun j hj => by
            rcases Nat.lt_or_ge j i with q | q
            · rw [rd_nk hI5 (by omega)]; exact v0_ j q
            · rw [show j = i by omega]; rw [rd_eq hI5, bI_t (by rw [e] <;> first | rfl | (simp [c3]; done) | (simp; omega))]; (try rfl)) (fun a ha => by rw [hI5]; funext q; rw [u2_ne ha, v1_ a ha]) (by omega)
      · obtain rfl : t2 = 258 := by
          have hh : (some (227 : Int)) = some off := by rw [c2e] at c2o; exact c2o
          cases hh; omega
        clear y2 y3 y4 y5
        have e := trt_4 (F := tF) (C := tC) (S := tS) (key := key) (att := att) (K := tK) (t := b + i) (by omega)
        refine r_aload_n (x := some c) (pc2 := 259) d_Co_isSo_258 rfl rfl ?_
        refine q_getR (x := some (c + 5)) (pc2 := 262) d_Co_isSo_259 rfl k_Co_30 rfl (hC.1.1) hC.2.1.2.2.2.2 ?_
        refine r_iload (pc2 := 264) d_Co_isSo_262 rfl rfl ?_
        refine r_iconst (v := nI 1) (pc2 := 265) d_Co_isSo_264 rfl (by decide) ?_
        refine q_bastore (q := i) (pc2 := 266) d_Co_isSo_265 rfl (hC.1.2.2.2.2.2) (nI_toInt (by omega)) (by omega) (by decide) (fun I6 hI6 => ?_)
        refine q_iinc (b := 1) (pc2 := 269) d_Co_isSo_266 rfl rfl (by decide) (Nat.le_of_ble_eq_true rfl) ?_
        refine r_goto (tgt := 18) d_Co_isSo_269 rfl ?_
        refine Run.sub (l2 := [(0, .ref c), (1, .int (nI n)), (2, .int key), (3, .int (nI att)), (4, .int (nI (i + 1)))]) ⟨rfl, rfl, rfl, rfl, rfl, trivial⟩ ?_
        exact ih_ (n + 1 - (i + 1)) (by omega) (i + 1) I6 rfl (fun j hj => by
          rcases Nat.lt_or_ge j i with q | q
          · rw [rd_nk hI6 (by omega)]; exact v0_ j q
          · rw [show j = i by omega]; rw [rd_eq hI6, bI_t (by rw [e] <;> first | rfl | (simp []; done) | (simp; omega))]; (try rfl)) (fun a ha => by rw [hI6]; funext q; rw [u2_ne ha, v1_ a ha]) (by omega)
      · obtain rfl : t2 = 97 := by
          have hh : (some (66 : Int)) = some off := by rw [c2e] at c2o; exact c2o
          cases hh; omega
        have hk5 : (tK (b + i)).toInt = 5 := by omega
        obtain ⟨x1, x2, x3⟩ := y4 hk5
        clear y2 y3 y4 y5
        obtain ⟨q6, q5⟩ := hV2 (b + i) (by omega)
        have q5b := q5 hk5
        obtain ⟨ft, hft, hft2⟩ : ∃ ft : Nat, tF (b + i) = nI ft ∧ (tF (b + i)).toInt = (ft : Int) := ⟨(tF (b + i)).toInt.toNat, eq_nI (by omega), by omega⟩
        have e := trt_5 (F := tF) (C := tC) (S := tS) (key := key) (att := att) hk5
        rw [hft2, Int.toNat_natCast] at e
        refine r_aload_n (x := some c) (pc2 := 98) d_Co_isSo_97 rfl rfl ?_
        refine q_getR (x := some (c + 5)) (pc2 := 101) d_Co_isSo_98 rfl k_Co_30 rfl (hC.1.1) hC.2.1.2.2.2.2 ?_
        refine r_iload (pc2 := 103) d_Co_isSo_101 rfl rfl ?_
        refine r_iload_n (pc2 := 104) d_Co_isSo_103 rfl rfl ?_
        refine r_aload_n (x := some c) (pc2 := 105) d_Co_isSo_104 rfl rfl ?_
        refine q_getR (x := some (c + 2)) (pc2 := 108) d_Co_isSo_105 rfl k_Co_21 rfl (hC.1.1) hC.2.1.2.1 ?_
        refine r_iload (pc2 := 110) d_Co_isSo_108 rfl rfl ?_
        refine q_iaload (q := i) (x := nI ft) (pc2 := 111) d_Co_isSo_110 rfl (hC.1.2.2.1) (nI_toInt (by omega)) (by omega) ((congrFun h2 _).trans (x1.trans hft)) ?_
        refine q_calls (M2 := mi_Co_digitOf) (pc2 := 114) d_Co_isSo_111 rfl k_Co_42 cm_Co_digitOf cs_Co_digitOf rfl rfl (Nat.le_of_ble_eq_true rfl) (c_Co_digitOf (a := att) (w := ft) (by omega) (by omega)) (d2 := d - 1) (by omega) (Nat.le_of_eq (Nat.zero_add _)) (Nat.le_of_eq (Nat.zero_add _)) ?_
        refine r_aload_n (x := some c) (pc2 := 115) d_Co_isSo_114 rfl rfl ?_
        refine q_getR (x := some (c + 4)) (pc2 := 118) d_Co_isSo_115 rfl k_Co_27 rfl (hC.1.1) hC.2.1.2.2.2.1 ?_
        refine r_iload (pc2 := 120) d_Co_isSo_118 rfl rfl ?_
        refine q_iaload (q := i) (x := tS (b + i)) (pc2 := 121) d_Co_isSo_120 rfl (hC.1.2.2.2.2.1) (nI_toInt (by omega)) (by omega) ((congrFun h4 _).trans (x3)) ?_
        refine r_aload_n (x := some c) (pc2 := 122) d_Co_isSo_121 rfl rfl ?_
        refine q_getR (x := some (c + 3)) (pc2 := 125) d_Co_isSo_122 rfl k_Co_24 rfl (hC.1.1) hC.2.1.2.2.1 ?_
        refine r_iload (pc2 := 127) d_Co_isSo_125 rfl rfl ?_
        refine q_iaload (q := i) (x := tC (b + i)) (pc2 := 128) d_Co_isSo_127 rfl (hC.1.2.2.2.1) (nI_toInt (by omega)) (by omega) ((congrFun h3 _).trans (x2)) ?_
        refine q_calls (M2 := mi_Co_isTestSo) (pc2 := 131) d_Co_isSo_128 rfl k_Co_46 cm_Co_isTestSo cs_Co_isTestSo rfl rfl (Nat.le_of_ble_eq_true rfl) (c_Co_isTestSo (v := att / 10 ^ (3 - ft) % 10) (Nat.mod_lt _ (by decide)) (s := tS (b + i)) (c := tC (b + i))) (d2 := d - 1) (by omega) (Nat.le_of_eq (Nat.zero_add _)) (Nat.le_of_eq (Nat.zero_add _)) ?_
        refine q_bastore (q := i) (pc2 := 132) d_Co_isSo_131 rfl (hC.1.2.2.2.2.2) (nI_toInt (by omega)) (by omega) (bI_01 _) (fun I7 hI7 => ?_)
        refine r_goto (tgt := 266) d_Co_isSo_132 rfl ?_
        refine q_iinc (b := 1) (pc2 := 269) d_Co_isSo_266 rfl rfl (by decide) (Nat.le_of_ble_eq_true rfl) ?_
        refine r_goto (tgt := 18) d_Co_isSo_269 rfl ?_
        refine Run.sub (l2 := [(0, .ref c), (1, .int (nI n)), (2, .int key), (3, .int (nI att)), (4, .int (nI (i + 1)))]) ⟨rfl, rfl, rfl, rfl, rfl, trivial⟩ ?_
        exact ih_ (n + 1 - (i + 1)) (by omega) (i + 1) I7 rfl (fun j hj => by
          rcases Nat.lt_or_ge j i with q | q
          · rw [rd_nk hI7 (by omega)]; exact v0_ j q
          · rw [show j = i by omega]; rw [rd_eq hI7, e]) (fun a ha => by rw [hI7]; funext q; rw [u2_ne ha, v1_ a ha]) (by omega)
      · obtain rfl : t2 = 135 := by
          have hh : (some (104 : Int)) = some off := by rw [c2e] at c2o; exact c2o
          cases hh; omega
        have hk6 : (tK (b + i)).toInt = 6 := by omega
        obtain ⟨x1, x2⟩ := y5 hk6
        clear y2 y3 y4 y5
        have e := trt_6 (F := tF) (C := tC) (S := tS) (key := key) (att := att) hk6
        refine r_aload_n (x := some c) (pc2 := 136) d_Co_isSo_135 rfl rfl ?_
        refine q_getR (x := some (c + 5)) (pc2 := 139) d_Co_isSo_136 rfl k_Co_30 rfl (hC.1.1) hC.2.1.2.2.2.2 ?_
        refine r_iload (pc2 := 141) d_Co_isSo_139 rfl rfl ?_
        refine r_iload_n (pc2 := 142) d_Co_isSo_141 rfl rfl ?_
        refine r_aload_n (x := some c) (pc2 := 143) d_Co_isSo_142 rfl rfl ?_
        refine q_getR (x := some (c + 2)) (pc2 := 146) d_Co_isSo_143 rfl k_Co_21 rfl (hC.1.1) hC.2.1.2.1 ?_
        refine r_iload (pc2 := 148) d_Co_isSo_146 rfl rfl ?_
        refine q_iaload (q := i) (x := tF (b + i)) (pc2 := 149) d_Co_isSo_148 rfl (hC.1.2.2.1) (nI_toInt (by omega)) (by omega) ((congrFun h2 _).trans (x1)) ?_
        refine q_icmp_lt (tgt := 167) (A := key.toInt) (B := (tF (b + i)).toInt) (pc2 := 152) d_Co_isSo_149 rfl rfl (rfl) (rfl) (fun c8 => ?_) (fun c8 => ?_)
        · refine r_iconst (v := nI 0) (pc2 := 168) d_Co_isSo_167 rfl (by decide) ?_
          refine q_bastore (q := i) (pc2 := 169) d_Co_isSo_168 rfl (hC.1.2.2.2.2.2) (nI_toInt (by omega)) (by omega) (by decide) (fun I9 hI9 => ?_)
          refine r_goto (tgt := 266) d_Co_isSo_169 rfl ?_
          refine q_iinc (b := 1) (pc2 := 269) d_Co_isSo_266 rfl rfl (by decide) (Nat.le_of_ble_eq_true rfl) ?_
          refine r_goto (tgt := 18) d_Co_isSo_269 rfl ?_
          refine Run.sub (l2 := [(0, .ref c), (1, .int (nI n)), (2, .int key), (3, .int (nI att)), (4, .int (nI (i + 1)))]) ⟨rfl, rfl, rfl, rfl, rfl, trivial⟩ ?_
          exact ih_ (n + 1 - (i + 1)) (by omega) (i + 1) I9 rfl (fun j hj => by
            rcases Nat.lt_or_ge j i with q | q
            · rw [rd_nk hI9 (by omega)]; exact v0_ j q
            · rw [show j = i by omega]; rw [rd_eq hI9, bI_f (by rw [e] <;> first | rfl | (simp [c8]; done) | (simp; omega))]; (try rfl)) (fun a ha => by rw [hI9]; funext q; rw [u2_ne ha, v1_ a ha]) (by omega)
        · refine r_iload_n (pc2 := 153) d_Co_isSo_152 rfl rfl ?_
          refine r_aload_n (x := some c) (pc2 := 154) d_Co_isSo_153 rfl rfl ?_
          refine q_getR (x := some (c + 3)) (pc2 := 157) d_Co_isSo_154 rfl k_Co_24 rfl (hC.1.1) hC.2.1.2.2.1 ?_
          refine r_iload (pc2 := 159) d_Co_isSo_157 rfl rfl ?_
          refine q_iaload (q := i) (x := tC (b + i)) (pc2 := 160) d_Co_isSo_159 rfl (hC.1.2.2.2.1) (nI_toInt (by omega)) (by omega) ((congrFun h3 _).trans (x2)) ?_
          refine q_icmp_gt (tgt := 167) (A := key.toInt) (B := (tC (b + i)).toInt) (pc2 := 163) d_Co_isSo_160 rfl rfl (rfl) (rfl) (fun c10 => ?_) (fun c10 => ?_)
          · refine r_iconst (v := nI 0) (pc2 := 168) d_Co_isSo_167 rfl (by decide) ?_
            refine q_bastore (q := i) (pc2 := 169) d_Co_isSo_168 rfl (hC.1.2.2.2.2.2) (nI_toInt (by omega)) (by omega) (by decide) (fun I11 hI11 => ?_)
            refine r_goto (tgt := 266) d_Co_isSo_169 rfl ?_
            refine q_iinc (b := 1) (pc2 := 269) d_Co_isSo_266 rfl rfl (by decide) (Nat.le_of_ble_eq_true rfl) ?_
            refine r_goto (tgt := 18) d_Co_isSo_269 rfl ?_
            refine Run.sub (l2 := [(0, .ref c), (1, .int (nI n)), (2, .int key), (3, .int (nI att)), (4, .int (nI (i + 1)))]) ⟨rfl, rfl, rfl, rfl, rfl, trivial⟩ ?_
            exact ih_ (n + 1 - (i + 1)) (by omega) (i + 1) I11 rfl (fun j hj => by
              rcases Nat.lt_or_ge j i with q | q
              · rw [rd_nk hI11 (by omega)]; exact v0_ j q
              · rw [show j = i by omega]; rw [rd_eq hI11, bI_f (by rw [e] <;> first | rfl | (simp [c8, c10]; done) | (simp; omega))]; (try rfl)) (fun a ha => by rw [hI11]; funext q; rw [u2_ne ha, v1_ a ha]) (by omega)
          · refine r_iconst (v := nI 1) (pc2 := 164) d_Co_isSo_163 rfl (by decide) ?_
            refine r_goto (tgt := 168) d_Co_isSo_164 rfl ?_
            refine q_bastore (q := i) (pc2 := 169) d_Co_isSo_168 rfl (hC.1.2.2.2.2.2) (nI_toInt (by omega)) (by omega) (by decide) (fun I12 hI12 => ?_)
            refine r_goto (tgt := 266) d_Co_isSo_169 rfl ?_
            refine q_iinc (b := 1) (pc2 := 269) d_Co_isSo_266 rfl rfl (by decide) (Nat.le_of_ble_eq_true rfl) ?_
            refine r_goto (tgt := 18) d_Co_isSo_269 rfl ?_
            refine Run.sub (l2 := [(0, .ref c), (1, .int (nI n)), (2, .int key), (3, .int (nI att)), (4, .int (nI (i + 1)))]) ⟨rfl, rfl, rfl, rfl, rfl, trivial⟩ ?_
            exact ih_ (n + 1 - (i + 1)) (by omega) (i + 1) I12 rfl (fun j hj => by
              rcases Nat.lt_or_ge j i with q | q
              · rw [rd_nk hI12 (by omega)]; exact v0_ j q
              · rw [show j = i by omega]; rw [rd_eq hI12, bI_t (by rw [e] <;> first | rfl | (simp [c8, c10]; done) | (simp; omega))]; (try rfl)) (fun a ha => by rw [hI12]; funext q; rw [u2_ne ha, v1_ a ha]) (by omega)
      · obtain rfl : t2 = 172 := by
          have hh : (some (141 : Int)) = some off := by rw [c2e] at c2o; exact c2o
          cases hh; omega
        have hk7 : (tK (b + i)).toInt = 7 := by omega
        obtain ⟨x, y, x1, y1b, x2, x3, x4, x5⟩ := y3 (by omega)
        clear y2 y3 y4 y5
        have e := trt_7 (S := tS) (key := key) (att := att) hV (show b + i < nt by omega) hk7
        rw [x3, x5, nI_toInt (by omega), nI_toInt (by omega), Int.toNat_natCast, Int.toNat_natCast] at e
        refine r_aload_n (x := some c) (pc2 := 173) d_Co_isSo_172 rfl rfl ?_
        refine q_getR (x := some (c + 5)) (pc2 := 176) d_Co_isSo_173 rfl k_Co_30 rfl (hC.1.1) hC.2.1.2.2.2.2 ?_
        refine r_iload (pc2 := 178) d_Co_isSo_176 rfl rfl ?_
        refine r_aload_n (x := some c) (pc2 := 179) d_Co_isSo_178 rfl rfl ?_
        refine r_aload_n (x := some c) (pc2 := 180) d_Co_isSo_179 rfl rfl ?_
        refine q_getR (x := some (c + 2)) (pc2 := 183) d_Co_isSo_180 rfl k_Co_21 rfl (hC.1.1) hC.2.1.2.1 ?_
        refine r_iload (pc2 := 185) d_Co_isSo_183 rfl rfl ?_
        refine q_iaload (q := i) (x := nI x) (pc2 := 186) d_Co_isSo_185 rfl (hC.1.2.2.1) (nI_toInt (by omega)) (by omega) ((congrFun h2 _).trans (x2)) ?_
        refine q_callv (M2 := mi_Co_truthAt) (pc2 := 189) d_Co_isSo_186 rfl k_Co_38 cm_Co_truthAt cv_Co_truthAt (hC.1.1) (by decide) rfl rfl rfl (Nat.le_of_ble_eq_true rfl) (c_Co_truthAt (I := J) hC.1.1 hC.1.2.2.2.2.2 hC.2.1.2.2.2.2 hC.2.2.1.2 (x := x) (by omega) (v0_ x (by omega))) (d2 := d - 1) (by omega) (Nat.le_of_eq (Nat.zero_add _)) (Nat.le_of_eq (Nat.zero_add _)) ?_
        refine q_bif_eq (tgt := 210) (pc2 := 192) d_Co_isSo_189 rfl rfl (fun c13 => ?_) (fun c13 => ?_)
        · refine r_iconst (v := nI 0) (pc2 := 211) d_Co_isSo_210 rfl (by decide) ?_
          refine q_bastore (q := i) (pc2 := 212) d_Co_isSo_211 rfl (hC.1.2.2.2.2.2) (nI_toInt (by omega)) (by omega) (by decide) (fun I14 hI14 => ?_)
          refine r_goto (tgt := 266) d_Co_isSo_212 rfl ?_
          refine q_iinc (b := 1) (pc2 := 269) d_Co_isSo_266 rfl rfl (by decide) (Nat.le_of_ble_eq_true rfl) ?_
          refine r_goto (tgt := 18) d_Co_isSo_269 rfl ?_
          refine Run.sub (l2 := [(0, .ref c), (1, .int (nI n)), (2, .int key), (3, .int (nI att)), (4, .int (nI (i + 1)))]) ⟨rfl, rfl, rfl, rfl, rfl, trivial⟩ ?_
          exact ih_ (n + 1 - (i + 1)) (by omega) (i + 1) I14 rfl (fun j hj => by
            rcases Nat.lt_or_ge j i with q | q
            · rw [rd_nk hI14 (by omega)]; exact v0_ j q
            · rw [show j = i by omega]; rw [rd_eq hI14, bI_f (by rw [e] <;> first | rfl | (simp [c13]; done) | (simp; omega))]; (try rfl)) (fun a ha => by rw [hI14]; funext q; rw [u2_ne ha, v1_ a ha]) (by omega)
        · refine r_aload_n (x := some c) (pc2 := 193) d_Co_isSo_192 rfl rfl ?_
          refine r_aload_n (x := some c) (pc2 := 194) d_Co_isSo_193 rfl rfl ?_
          refine q_getR (x := some (c + 3)) (pc2 := 197) d_Co_isSo_194 rfl k_Co_24 rfl (hC.1.1) hC.2.1.2.2.1 ?_
          refine r_iload (pc2 := 199) d_Co_isSo_197 rfl rfl ?_
          refine q_iaload (q := i) (x := nI y) (pc2 := 200) d_Co_isSo_199 rfl (hC.1.2.2.2.1) (nI_toInt (by omega)) (by omega) ((congrFun h3 _).trans (x4)) ?_
          refine q_callv (M2 := mi_Co_truthAt) (pc2 := 203) d_Co_isSo_200 rfl k_Co_38 cm_Co_truthAt cv_Co_truthAt (hC.1.1) (by decide) rfl rfl rfl (Nat.le_of_ble_eq_true rfl) (c_Co_truthAt (I := J) hC.1.1 hC.1.2.2.2.2.2 hC.2.1.2.2.2.2 hC.2.2.1.2 (x := y) (by omega) (v0_ y (by omega))) (d2 := d - 1) (by omega) (Nat.le_of_eq (Nat.zero_add _)) (Nat.le_of_eq (Nat.zero_add _)) ?_
          refine q_bif_eq (tgt := 210) (pc2 := 206) d_Co_isSo_203 rfl rfl (fun c15 => ?_) (fun c15 => ?_)
          · refine r_iconst (v := nI 0) (pc2 := 211) d_Co_isSo_210 rfl (by decide) ?_
            refine q_bastore (q := i) (pc2 := 212) d_Co_isSo_211 rfl (hC.1.2.2.2.2.2) (nI_toInt (by omega)) (by omega) (by decide) (fun I16 hI16 => ?_)
            refine r_goto (tgt := 266) d_Co_isSo_212 rfl ?_
            refine q_iinc (b := 1) (pc2 := 269) d_Co_isSo_266 rfl rfl (by decide) (Nat.le_of_ble_eq_true rfl) ?_
            refine r_goto (tgt := 18) d_Co_isSo_269 rfl ?_
            refine Run.sub (l2 := [(0, .ref c), (1, .int (nI n)), (2, .int key), (3, .int (nI att)), (4, .int (nI (i + 1)))]) ⟨rfl, rfl, rfl, rfl, rfl, trivial⟩ ?_
            exact ih_ (n + 1 - (i + 1)) (by omega) (i + 1) I16 rfl (fun j hj => by
              rcases Nat.lt_or_ge j i with q | q
              · rw [rd_nk hI16 (by omega)]; exact v0_ j q
              · rw [show j = i by omega]; rw [rd_eq hI16, bI_f (by rw [e] <;> first | rfl | (simp [c13, c15]; done) | (simp; omega))]; (try rfl)) (fun a ha => by rw [hI16]; funext q; rw [u2_ne ha, v1_ a ha]) (by omega)
          · refine r_iconst (v := nI 1) (pc2 := 207) d_Co_isSo_206 rfl (by decide) ?_
            refine r_goto (tgt := 211) d_Co_isSo_207 rfl ?_
            refine q_bastore (q := i) (pc2 := 212) d_Co_isSo_211 rfl (hC.1.2.2.2.2.2) (nI_toInt (by omega)) (by omega) (by decide) (fun I17 hI17 => ?_)
            refine r_goto (tgt := 266) d_Co_isSo_212 rfl ?_
            refine q_iinc (b := 1) (pc2 := 269) d_Co_isSo_266 rfl rfl (by decide) (Nat.le_of_ble_eq_true rfl) ?_
            refine r_goto (tgt := 18) d_Co_isSo_269 rfl ?_
            refine Run.sub (l2 := [(0, .ref c), (1, .int (nI n)), (2, .int key), (3, .int (nI att)), (4, .int (nI (i + 1)))]) ⟨rfl, rfl, rfl, rfl, rfl, trivial⟩ ?_
            exact ih_ (n + 1 - (i + 1)) (by omega) (i + 1) I17 rfl (fun j hj => by
              rcases Nat.lt_or_ge j i with q | q
              · rw [rd_nk hI17 (by omega)]; exact v0_ j q
              · rw [show j = i by omega]; rw [rd_eq hI17, bI_t (by rw [e] <;> first | rfl | (simp [c13, c15]; done) | (simp; omega))]; (try rfl)) (fun a ha => by rw [hI17]; funext q; rw [u2_ne ha, v1_ a ha]) (by omega)
      · obtain rfl : t2 = 215 := by
          have hh : (some (184 : Int)) = some off := by rw [c2e] at c2o; exact c2o
          cases hh; omega
        have hk8 : (tK (b + i)).toInt = 8 := by omega
        obtain ⟨x, y, x1, y1b, x2, x3, x4, x5⟩ := y3 (by omega)
        clear y2 y3 y4 y5
        have e := trt_8 (S := tS) (key := key) (att := att) hV (show b + i < nt by omega) hk8
        rw [x3, x5, nI_toInt (by omega), nI_toInt (by omega), Int.toNat_natCast, Int.toNat_natCast] at e
        refine r_aload_n (x := some c) (pc2 := 216) d_Co_isSo_215 rfl rfl ?_
        refine q_getR (x := some (c + 5)) (pc2 := 219) d_Co_isSo_216 rfl k_Co_30 rfl (hC.1.1) hC.2.1.2.2.2.2 ?_
        refine r_iload (pc2 := 221) d_Co_isSo_219 rfl rfl ?_
        refine r_aload_n (x := some c) (pc2 := 222) d_Co_isSo_221 rfl rfl ?_
        refine r_aload_n (x := some c) (pc2 := 223) d_Co_isSo_222 rfl rfl ?_
        refine q_getR (x := some (c + 2)) (pc2 := 226) d_Co_isSo_223 rfl k_Co_21 rfl (hC.1.1) hC.2.1.2.1 ?_
        refine r_iload (pc2 := 228) d_Co_isSo_226 rfl rfl ?_
        refine q_iaload (q := i) (x := nI x) (pc2 := 229) d_Co_isSo_228 rfl (hC.1.2.2.1) (nI_toInt (by omega)) (by omega) ((congrFun h2 _).trans (x2)) ?_
        refine q_callv (M2 := mi_Co_truthAt) (pc2 := 232) d_Co_isSo_229 rfl k_Co_38 cm_Co_truthAt cv_Co_truthAt (hC.1.1) (by decide) rfl rfl rfl (Nat.le_of_ble_eq_true rfl) (c_Co_truthAt (I := J) hC.1.1 hC.1.2.2.2.2.2 hC.2.1.2.2.2.2 hC.2.2.1.2 (x := x) (by omega) (v0_ x (by omega))) (d2 := d - 1) (by omega) (Nat.le_of_eq (Nat.zero_add _)) (Nat.le_of_eq (Nat.zero_add _)) ?_
        refine q_bif_ne (tgt := 249) (pc2 := 235) d_Co_isSo_232 rfl rfl (fun c18 => ?_) (fun c18 => ?_)
        · refine r_iconst (v := nI 1) (pc2 := 250) d_Co_isSo_249 rfl (by decide) ?_
          refine r_goto (tgt := 254) d_Co_isSo_250 rfl ?_
          refine q_bastore (q := i) (pc2 := 255) d_Co_isSo_254 rfl (hC.1.2.2.2.2.2) (nI_toInt (by omega)) (by omega) (by decide) (fun I19 hI19 => ?_)
          refine r_goto (tgt := 266) d_Co_isSo_255 rfl ?_
          refine q_iinc (b := 1) (pc2 := 269) d_Co_isSo_266 rfl rfl (by decide) (Nat.le_of_ble_eq_true rfl) ?_
          refine r_goto (tgt := 18) d_Co_isSo_269 rfl ?_
          refine Run.sub (l2 := [(0, .ref c), (1, .int (nI n)), (2, .int key), (3, .int (nI att)), (4, .int (nI (i + 1)))]) ⟨rfl, rfl, rfl, rfl, rfl, trivial⟩ ?_
          exact ih_ (n + 1 - (i + 1)) (by omega) (i + 1) I19 rfl (fun j hj => by
            rcases Nat.lt_or_ge j i with q | q
            · rw [rd_nk hI19 (by omega)]; exact v0_ j q
            · rw [show j = i by omega]; rw [rd_eq hI19, bI_t (by rw [e] <;> first | rfl | (simp [c18]; done) | (simp; omega))]; (try rfl)) (fun a ha => by rw [hI19]; funext q; rw [u2_ne ha, v1_ a ha]) (by omega)
        · refine r_aload_n (x := some c) (pc2 := 236) d_Co_isSo_235 rfl rfl ?_
          refine r_aload_n (x := some c) (pc2 := 237) d_Co_isSo_236 rfl rfl ?_
          refine q_getR (x := some (c + 3)) (pc2 := 240) d_Co_isSo_237 rfl k_Co_24 rfl (hC.1.1) hC.2.1.2.2.1 ?_
          refine r_iload (pc2 := 242) d_Co_isSo_240 rfl rfl ?_
          refine q_iaload (q := i) (x := nI y) (pc2 := 243) d_Co_isSo_242 rfl (hC.1.2.2.2.1) (nI_toInt (by omega)) (by omega) ((congrFun h3 _).trans (x4)) ?_
          refine q_callv (M2 := mi_Co_truthAt) (pc2 := 246) d_Co_isSo_243 rfl k_Co_38 cm_Co_truthAt cv_Co_truthAt (hC.1.1) (by decide) rfl rfl rfl (Nat.le_of_ble_eq_true rfl) (c_Co_truthAt (I := J) hC.1.1 hC.1.2.2.2.2.2 hC.2.1.2.2.2.2 hC.2.2.1.2 (x := y) (by omega) (v0_ y (by omega))) (d2 := d - 1) (by omega) (Nat.le_of_eq (Nat.zero_add _)) (Nat.le_of_eq (Nat.zero_add _)) ?_
          refine q_bif_eq (tgt := 253) (pc2 := 249) d_Co_isSo_246 rfl rfl (fun c20 => ?_) (fun c20 => ?_)
          · refine r_iconst (v := nI 0) (pc2 := 254) d_Co_isSo_253 rfl (by decide) ?_
            refine q_bastore (q := i) (pc2 := 255) d_Co_isSo_254 rfl (hC.1.2.2.2.2.2) (nI_toInt (by omega)) (by omega) (by decide) (fun I21 hI21 => ?_)
            refine r_goto (tgt := 266) d_Co_isSo_255 rfl ?_
            refine q_iinc (b := 1) (pc2 := 269) d_Co_isSo_266 rfl rfl (by decide) (Nat.le_of_ble_eq_true rfl) ?_
            refine r_goto (tgt := 18) d_Co_isSo_269 rfl ?_
            refine Run.sub (l2 := [(0, .ref c), (1, .int (nI n)), (2, .int key), (3, .int (nI att)), (4, .int (nI (i + 1)))]) ⟨rfl, rfl, rfl, rfl, rfl, trivial⟩ ?_
            exact ih_ (n + 1 - (i + 1)) (by omega) (i + 1) I21 rfl (fun j hj => by
              rcases Nat.lt_or_ge j i with q | q
              · rw [rd_nk hI21 (by omega)]; exact v0_ j q
              · rw [show j = i by omega]; rw [rd_eq hI21, bI_f (by rw [e] <;> first | rfl | (simp [c18, c20]; done) | (simp; omega))]; (try rfl)) (fun a ha => by rw [hI21]; funext q; rw [u2_ne ha, v1_ a ha]) (by omega)
          · refine r_iconst (v := nI 1) (pc2 := 250) d_Co_isSo_249 rfl (by decide) ?_
            refine r_goto (tgt := 254) d_Co_isSo_250 rfl ?_
            refine q_bastore (q := i) (pc2 := 255) d_Co_isSo_254 rfl (hC.1.2.2.2.2.2) (nI_toInt (by omega)) (by omega) (by decide) (fun I22 hI22 => ?_)
            refine r_goto (tgt := 266) d_Co_isSo_255 rfl ?_
            refine q_iinc (b := 1) (pc2 := 269) d_Co_isSo_266 rfl rfl (by decide) (Nat.le_of_ble_eq_true rfl) ?_
            refine r_goto (tgt := 18) d_Co_isSo_269 rfl ?_
            refine Run.sub (l2 := [(0, .ref c), (1, .int (nI n)), (2, .int key), (3, .int (nI att)), (4, .int (nI (i + 1)))]) ⟨rfl, rfl, rfl, rfl, rfl, trivial⟩ ?_
            exact ih_ (n + 1 - (i + 1)) (by omega) (i + 1) I22 rfl (fun j hj => by
              rcases Nat.lt_or_ge j i with q | q
              · rw [rd_nk hI22 (by omega)]; exact v0_ j q
              · rw [show j = i by omega]; rw [rd_eq hI22, bI_t (by rw [e] <;> first | rfl | (simp [c18, c20]; done) | (simp; omega))]; (try rfl)) (fun a ha => by rw [hI22]; funext q; rw [u2_ne ha, v1_ a ha]) (by omega)
    · clear y2 y3 y4 y5
      have e := trt_4 (F := tF) (C := tC) (S := tS) (key := key) (att := att) (K := tK) (t := b + i) (by omega)
      refine r_aload_n (x := some c) (pc2 := 259) d_Co_isSo_258 rfl rfl ?_
      refine q_getR (x := some (c + 5)) (pc2 := 262) d_Co_isSo_259 rfl k_Co_30 rfl (hC.1.1) hC.2.1.2.2.2.2 ?_
      refine r_iload (pc2 := 264) d_Co_isSo_262 rfl rfl ?_
      refine r_iconst (v := nI 1) (pc2 := 265) d_Co_isSo_264 rfl (by decide) ?_
      refine q_bastore (q := i) (pc2 := 266) d_Co_isSo_265 rfl (hC.1.2.2.2.2.2) (nI_toInt (by omega)) (by omega) (by decide) (fun I23 hI23 => ?_)
      refine q_iinc (b := 1) (pc2 := 269) d_Co_isSo_266 rfl rfl (by decide) (Nat.le_of_ble_eq_true rfl) ?_
      refine r_goto (tgt := 18) d_Co_isSo_269 rfl ?_
      refine Run.sub (l2 := [(0, .ref c), (1, .int (nI n)), (2, .int key), (3, .int (nI att)), (4, .int (nI (i + 1)))]) ⟨rfl, rfl, rfl, rfl, rfl, trivial⟩ ?_
      exact ih_ (n + 1 - (i + 1)) (by omega) (i + 1) I23 rfl (fun j hj => by
        rcases Nat.lt_or_ge j i with q | q
        · rw [rd_nk hI23 (by omega)]; exact v0_ j q
        · rw [show j = i by omega]; rw [rd_eq hI23, bI_t (by rw [e] <;> first | rfl | (simp [c2]; done) | (simp; omega))]; (try rfl)) (fun a ha => by rw [hI23]; funext q; rw [u2_ne ha, v1_ a ha]) (by omega)
theorem c_Co_isSo {d : Nat} {I : Nat → Nat → Int32} {R : Nat → Nat → Option Nat} {L : Nat → Nat → Int64} {sh : Nat → Nat × Nat} {N : Nat} {tK tF tC tS : Nat → Int32} {nt : Nat} (hV : TV tK tF tC nt) (hV2 : TV2 tK tF tC tS nt) {c m b : Nat} (hC : CO tK tF tC tS I R sh c m b) (hbn : b + m ≤ nt) (hnt6 : nt ≤ 1000000) {n : Nat} (hn : n < m) {key : Int32} {att : Nat} (ha : att ≤ 9999) (hd : 2 ≤ d) : Mt mi_Co_isSo d 0 0 [.ref c, .int (nI n), .int key, .int (nI att)] (I, R, L, sh, N) (fun r h2 => ∃ J, h2 = (J, R, L, sh, N) ∧ r = some (.int (bI (trt tK tF tC tS key att (b + n) = true))) ∧ ∀ a, a ≠ c + 5 → J a = I a) := by
  have hbm := hC.2.2.1.2
  refine Mt.of pn_Co (Nat.le_of_ble_eq_true rfl) ?_
  show Run mi_Co_isSo d 0 0 0 [(0, .ref c), (1, .int (nI n)), (2, .int key), (3, .int (nI att))] [] (I, R, L, sh, N) _
  refine r_iload_n (pc2 := 1) d_Co_isSo_0 rfl rfl ?_
  refine q_if_lt (tgt := 13) (A := ((n : Nat) : Int)) (pc2 := 4) d_Co_isSo_1 rfl rfl (nI_toInt (by omega)) (fun c1 => ?_) (fun c1 => ?_)
  · exfalso; omega
  refine r_iload_n (pc2 := 5) d_Co_isSo_4 rfl rfl ?_
  refine r_aload_n (x := some c) (pc2 := 6) d_Co_isSo_5 rfl rfl ?_
  refine q_getR (x := some (c + 1)) (pc2 := 9) d_Co_isSo_6 rfl k_Co_15 rfl (hC.1.1) hC.2.1.1 ?_
  refine r_alen (pc2 := 10) d_Co_isSo_9 rfl (hC.1.2.1) (by decide) (by decide) ?_
  refine q_icmp_lt (tgt := 15) (A := ((n : Nat) : Int)) (B := ((m : Nat) : Int)) (pc2 := 13) d_Co_isSo_10 rfl rfl (nI_toInt (by omega)) (nI_toInt (by omega)) (fun c2 => ?_) (fun c2 => ?_)
  · refine r_iconst (v := nI 0) (pc2 := 16) d_Co_isSo_15 rfl (by decide) ?_
    refine r_istore (pc2 := 18) d_Co_isSo_16 rfl (Nat.le_of_ble_eq_true rfl) ?_
    refine Run.sub (l2 := [(0, .ref c), (1, .int (nI n)), (2, .int key), (3, .int (nI att)), (4, .int (nI 0))]) ⟨rfl, rfl, rfl, rfl, rfl, trivial⟩ ?_
    exact l_Co_isSo hV hV2 hC hbn hnt6 hn ha (fun J hJ => ⟨J, rfl, rfl, hJ⟩) hd _ 0 I rfl (fun j hj => absurd hj (by omega)) (fun a _ => rfl) (Nat.zero_le _)
  · exfalso; omega
theorem c_Co_root {d : Nat} {I : Nat → Nat → Int32} {R : Nat → Nat → Option Nat} {L : Nat → Nat → Int64} {sh : Nat → Nat × Nat} {N : Nat} {tK tF tC tS : Nat → Int32} {c m b : Nat} (hC : CO tK tF tC tS I R sh c m b) : Me mi_Co_root d 0 0 [.ref c] (I, R, L, sh, N) (some (.int (nI (m - 1)))) (I, R, L, sh, N) := by
  have hbm := hC.2.2.1.2
  have hbm1 := hC.2.2.1.1
  refine Mt.of pn_Co (Nat.le_of_ble_eq_true rfl) ?_
  show Run mi_Co_root d 0 0 0 [(0, .ref c)] [] (I, R, L, sh, N) _
  refine r_aload_n (x := some c) (pc2 := 1) d_Co_root_0 rfl rfl ?_
  refine q_getR (x := some (c + 1)) (pc2 := 4) d_Co_root_1 rfl k_Co_15 rfl (hC.1.1) hC.2.1.1 ?_
  refine r_alen (pc2 := 5) d_Co_root_4 rfl (hC.1.2.1) (by decide) (by decide) ?_
  refine r_iconst (v := nI 1) (pc2 := 6) d_Co_root_5 rfl (by decide) ?_
  refine q_isubN (pc2 := 7) d_Co_root_6 rfl (by omega) ?_
  refine Run.ret (some (.int (nI (m - 1)))) d_Co_root_7 ⟨_, rfl⟩ ?_
  exact ⟨rfl, rfl⟩
theorem c_Co_kindOf {d : Nat} {I : Nat → Nat → Int32} {R : Nat → Nat → Option Nat} {L : Nat → Nat → Int64} {sh : Nat → Nat × Nat} {N : Nat} {tK tF tC tS : Nat → Int32} {c m b : Nat} (hC : CO tK tF tC tS I R sh c m b) {n : Nat} (hn : n < m) : Me mi_Co_kindOf d 0 0 [.ref c, .int (nI n)] (I, R, L, sh, N) (some (.int (tK (b + n)))) (I, R, L, sh, N) := by
  have hbm := hC.2.2.1.2
  have hbm1 := hC.2.2.1.1
  refine Mt.of pn_Co (Nat.le_of_ble_eq_true rfl) ?_
  show Run mi_Co_kindOf d 0 0 0 [(0, .ref c), (1, .int (nI n))] [] (I, R, L, sh, N) _
  refine r_iload_n (pc2 := 1) d_Co_kindOf_0 rfl rfl ?_
  refine q_if_lt (tgt := 22) (A := ((n : Nat) : Int)) (pc2 := 4) d_Co_kindOf_1 rfl rfl (nI_toInt (by omega)) (fun c1 => ?_) (fun c1 => ?_)
  · exfalso; omega
  refine r_iload_n (pc2 := 5) d_Co_kindOf_4 rfl rfl ?_
  refine r_aload_n (x := some c) (pc2 := 6) d_Co_kindOf_5 rfl rfl ?_
  refine q_getR (x := some (c + 1)) (pc2 := 9) d_Co_kindOf_6 rfl k_Co_15 rfl (hC.1.1) hC.2.1.1 ?_
  refine r_alen (pc2 := 10) d_Co_kindOf_9 rfl (hC.1.2.1) (by decide) (by decide) ?_
  refine q_icmp_ge (tgt := 22) (A := ((n : Nat) : Int)) (B := ((m : Nat) : Int)) (pc2 := 13) d_Co_kindOf_10 rfl rfl (nI_toInt (by omega)) (nI_toInt (by omega)) (fun c2 => ?_) (fun c2 => ?_)
  · refine r_iconst (v := (-1 : Int32)) (pc2 := 23) d_Co_kindOf_22 rfl (by decide) ?_
    refine Run.ret (some (.int ((-1 : Int32)))) d_Co_kindOf_23 ⟨_, rfl⟩ ?_
    first | (exfalso; omega) | exact ⟨rfl, rfl⟩
  · refine r_aload_n (x := some c) (pc2 := 14) d_Co_kindOf_13 rfl rfl ?_
    refine q_getR (x := some (c + 1)) (pc2 := 17) d_Co_kindOf_14 rfl k_Co_15 rfl (hC.1.1) hC.2.1.1 ?_
    refine r_iload_n (pc2 := 18) d_Co_kindOf_17 rfl rfl ?_
    refine q_iaload (q := n) (x := tK (b + n)) (pc2 := 19) d_Co_kindOf_18 rfl (hC.1.2.1) (nI_toInt (by omega)) (by omega) ((hC.2.2.2.2 n hn).1) ?_
    refine r_goto (tgt := 23) d_Co_kindOf_19 rfl ?_
    refine Run.ret (some (.int (tK (b + n)))) d_Co_kindOf_23 ⟨_, rfl⟩ ?_
    first | (exfalso; omega) | exact ⟨rfl, rfl⟩
