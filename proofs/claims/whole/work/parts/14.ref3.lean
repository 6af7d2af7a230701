/-! THE REFERENCE: helpers, on -/
/-- the bucket of a key by a salt -/
def bkz (z : Int32) : Int32 := z ^^^ (z.toUInt32 >>> ((nI 16).toUInt32 &&& Int32.toUInt32 31)).toInt32
def bk1 (s k : Int32) : Int32 := (bkz (bkz (bkz (k + nI 101 * s) * nI 73244475) * nI 73244475)).toUInt32 >>> ((nI 1).toUInt32 &&& Int32.toUInt32 31) |>.toInt32
def bkt (s k : Int32) : Int32 := bk1 s k - bk1 s k / nI 1000 * nI 1000
theorem c_M_bucketOf {d : Nat} {h : HS} {s k : Int32} : Me mi_M_bucketOf d 0 0 [.int s, .int k] h (some (.int (bkt s k))) h := by
  refine Mt.of pn_M (Nat.le_of_ble_eq_true rfl) ?_
  show Run mi_M_bucketOf d 0 0 0 [(0, .int s), (1, .int k)] [] h _
  refine r_iload_n (pc2 := 1) d_M_bucketOf_0 rfl rfl ?_
  refine r_bipush (v := nI 101) (pc2 := 3) d_M_bucketOf_1 rfl (by decide) ?_
  refine r_iload_n (pc2 := 4) d_M_bucketOf_3 rfl rfl ?_
  refine r_imul (pc2 := 5) d_M_bucketOf_4 rfl ?_
  refine r_iadd (pc2 := 6) d_M_bucketOf_5 rfl ?_
  refine r_istore_n (pc2 := 7) d_M_bucketOf_6 rfl rfl (Nat.le_of_ble_eq_true rfl) ?_
  refine r_iconst (v := nI 0) (pc2 := 8) d_M_bucketOf_7 rfl (by decide) ?_
  refine r_istore_n (pc2 := 9) d_M_bucketOf_8 rfl rfl (Nat.le_of_ble_eq_true rfl) ?_
  refine r_iload_n (pc2 := 10) d_M_bucketOf_9 rfl rfl ?_
  refine r_iconst (v := nI 2) (pc2 := 11) d_M_bucketOf_10 rfl (by decide) ?_
  refine q_icmp_ge (tgt := 32) (A := (0 : Int)) (B := (2 : Int)) (pc2 := 14) d_M_bucketOf_11 rfl rfl (nI_toInt (by omega)) (nI_toInt (by omega)) (fun c1 => ?_) (fun c1 => ?_)
  · exfalso; omega
  refine r_iload_n (pc2 := 15) d_M_bucketOf_14 rfl rfl ?_
  refine r_iload_n (pc2 := 16) d_M_bucketOf_15 rfl rfl ?_
  refine r_bipush (v := nI 16) (pc2 := 18) d_M_bucketOf_16 rfl (by decide) ?_
  refine r_iushr (pc2 := 19) d_M_bucketOf_18 rfl ?_
  refine r_ixor (pc2 := 20) d_M_bucketOf_19 rfl ?_
  refine r_istore_n (pc2 := 21) d_M_bucketOf_20 rfl rfl (Nat.le_of_ble_eq_true rfl) ?_
  refine r_iload_n (pc2 := 22) d_M_bucketOf_21 rfl rfl ?_
  refine r_ldc (pc2 := 24) d_M_bucketOf_22 rfl k_M_88 ?_
  refine q_top (y := nI 73244475) (by decide) ?_
  refine r_imul (pc2 := 25) d_M_bucketOf_24 rfl ?_
  refine r_istore_n (pc2 := 26) d_M_bucketOf_25 rfl rfl (Nat.le_of_ble_eq_true rfl) ?_
  refine q_iinc (b := 1) (pc2 := 29) d_M_bucketOf_26 rfl rfl (by decide) (Nat.le_of_ble_eq_true rfl) ?_
  refine r_goto (tgt := 9) d_M_bucketOf_29 rfl ?_
  refine r_iload_n (pc2 := 10) d_M_bucketOf_9 rfl rfl ?_
  refine r_iconst (v := nI 2) (pc2 := 11) d_M_bucketOf_10 rfl (by decide) ?_
  refine q_icmp_ge (tgt := 32) (A := (1 : Int)) (B := (2 : Int)) (pc2 := 14) d_M_bucketOf_11 rfl rfl (nI_toInt (by omega)) (nI_toInt (by omega)) (fun c2 => ?_) (fun c2 => ?_)
  · exfalso; omega
  refine r_iload_n (pc2 := 15) d_M_bucketOf_14 rfl rfl ?_
  refine r_iload_n (pc2 := 16) d_M_bucketOf_15 rfl rfl ?_
  refine r_bipush (v := nI 16) (pc2 := 18) d_M_bucketOf_16 rfl (by decide) ?_
  refine r_iushr (pc2 := 19) d_M_bucketOf_18 rfl ?_
  refine r_ixor (pc2 := 20) d_M_bucketOf_19 rfl ?_
  refine r_istore_n (pc2 := 21) d_M_bucketOf_20 rfl rfl (Nat.le_of_ble_eq_true rfl) ?_
  refine r_iload_n (pc2 := 22) d_M_bucketOf_21 rfl rfl ?_
  refine r_ldc (pc2 := 24) d_M_bucketOf_22 rfl k_M_88 ?_
  refine q_top (y := nI 73244475) (by decide) ?_
  refine r_imul (pc2 := 25) d_M_bucketOf_24 rfl ?_
  refine r_istore_n (pc2 := 26) d_M_bucketOf_25 rfl rfl (Nat.le_of_ble_eq_true rfl) ?_
  refine q_iinc (b := 1) (pc2 := 29) d_M_bucketOf_26 rfl rfl (by decide) (Nat.le_of_ble_eq_true rfl) ?_
  refine r_goto (tgt := 9) d_M_bucketOf_29 rfl ?_
  refine r_iload_n (pc2 := 10) d_M_bucketOf_9 rfl rfl ?_
  refine r_iconst (v := nI 2) (pc2 := 11) d_M_bucketOf_10 rfl (by decide) ?_
  refine q_icmp_ge (tgt := 32) (A := (2 : Int)) (B := (2 : Int)) (pc2 := 14) d_M_bucketOf_11 rfl rfl (nI_toInt (by omega)) (nI_toInt (by omega)) (fun c3 => ?_) (fun c3 => ?_)
  rotate_left
  · exfalso; omega
  refine r_iload_n (pc2 := 33) d_M_bucketOf_32 rfl rfl ?_
  refine r_iload_n (pc2 := 34) d_M_bucketOf_33 rfl rfl ?_
  refine r_bipush (v := nI 16) (pc2 := 36) d_M_bucketOf_34 rfl (by decide) ?_
  refine r_iushr (pc2 := 37) d_M_bucketOf_36 rfl ?_
  refine r_ixor (pc2 := 38) d_M_bucketOf_37 rfl ?_
  refine r_istore_n (pc2 := 39) d_M_bucketOf_38 rfl rfl (Nat.le_of_ble_eq_true rfl) ?_
  refine r_iload_n (pc2 := 40) d_M_bucketOf_39 rfl rfl ?_
  refine r_iconst (v := nI 1) (pc2 := 41) d_M_bucketOf_40 rfl (by decide) ?_
  refine r_iushr (pc2 := 42) d_M_bucketOf_41 rfl ?_
  refine r_sipush (v := nI 1000) (pc2 := 45) d_M_bucketOf_42 rfl (by decide) ?_
  refine r_irem (pc2 := 46) d_M_bucketOf_45 rfl (by decide) ?_
  refine Run.ret (some (.int (((((((((k + ((nI 101) * s)) ^^^ (((k + ((nI 101) * s)).toUInt32 >>> ((nI 16).toUInt32 &&& Int32.toUInt32 31)).toInt32)) * (nI 73244475)) ^^^ (((((k + ((nI 101) * s)) ^^^ (((k + ((nI 101) * s)).toUInt32 >>> ((nI 16).toUInt32 &&& Int32.toUInt32 31)).toInt32)) * (nI 73244475)).toUInt32 >>> ((nI 16).toUInt32 &&& Int32.toUInt32 31)).toInt32)) * (nI 73244475)) ^^^ (((((((k + ((nI 101) * s)) ^^^ (((k + ((nI 101) * s)).toUInt32 >>> ((nI 16).toUInt32 &&& Int32.toUInt32 31)).toInt32)) * (nI 73244475)) ^^^ (((((k + ((nI 101) * s)) ^^^ (((k + ((nI 101) * s)).toUInt32 >>> ((nI 16).toUInt32 &&& Int32.toUInt32 31)).toInt32)) * (nI 73244475)).toUInt32 >>> ((nI 16).toUInt32 &&& Int32.toUInt32 31)).toInt32)) * (nI 73244475)).toUInt32 >>> ((nI 16).toUInt32 &&& Int32.toUInt32 31)).toInt32)).toUInt32 >>> ((nI 1).toUInt32 &&& Int32.toUInt32 31)).toInt32) - ((((((((k + ((nI 101) * s)) ^^^ (((k + ((nI 101) * s)).toUInt32 >>> ((nI 16).toUInt32 &&& Int32.toUInt32 31)).toInt32)) * (nI 73244475)) ^^^ (((((k + ((nI 101) * s)) ^^^ (((k + ((nI 101) * s)).toUInt32 >>> ((nI 16).toUInt32 &&& Int32.toUInt32 31)).toInt32)) * (nI 73244475)).toUInt32 >>> ((nI 16).toUInt32 &&& Int32.toUInt32 31)).toInt32)) * (nI 73244475)) ^^^ (((((((k + ((nI 101) * s)) ^^^ (((k + ((nI 101) * s)).toUInt32 >>> ((nI 16).toUInt32 &&& Int32.toUInt32 31)).toInt32)) * (nI 73244475)) ^^^ (((((k + ((nI 101) * s)) ^^^ (((k + ((nI 101) * s)).toUInt32 >>> ((nI 16).toUInt32 &&& Int32.toUInt32 31)).toInt32)) * (nI 73244475)).toUInt32 >>> ((nI 16).toUInt32 &&& Int32.toUInt32 31)).toInt32)) * (nI 73244475)).toUInt32 >>> ((nI 16).toUInt32 &&& Int32.toUInt32 31)).toInt32)).toUInt32 >>> ((nI 1).toUInt32 &&& Int32.toUInt32 31)).toInt32) / (nI 1000) * (nI 1000)))) d_M_bucketOf_46 ⟨_, rfl⟩ ?_
  exact ⟨rfl, rfl⟩
/-- a digit of a number -/
theorem dg_step {a w k v : Nat} (hk : w ≤ k) (hv : v = a / 10 ^ (k - w)) : v / 10 = a / 10 ^ (k + 1 - w) := by
  rw [hv, Nat.div_div_eq_div_mul, show k + 1 - w = (k - w) + 1 by omega, Nat.pow_succ]
theorem l_M_digit {d : Nat} {h : HS} {a w : Nat} (ha : a < 2 ^ 31) (hw : w < 2 ^ 30) {Q : Option Value → HS → Prop} (hq : Q (some (.int (nI (a / 10 ^ (3 - w) % 10)))) h) : ∀ (n_ : Nat) (k : Nat) (v : Nat), 3 - k = n_ → (w ≤ k) → (k ≤ 3 ∨ k = w) → (v = a / 10 ^ (k - w)) → Run mi_M_digit d 0 0 4 [(0, .int (nI a)), (1, .int (nI w)), (2, .int (nI v)), (3, .int (nI k))] [] h Q := by
  intro n_
  induction n_ using Nat.strongRecOn with | ind n_ ih_ => ?_
  intro k v hn_ v0_ v1_ v2_
  have hva : v ≤ a := by rw [v2_]; exact Nat.div_le_self _ _
  refine r_iload_n (pc2 := 5) d_M_digit_4 rfl rfl ?_
  refine r_iconst (v := nI 3) (pc2 := 6) d_M_digit_5 rfl (by decide) ?_
  refine q_icmp_ge (tgt := 20) (A := ((k : Nat) : Int)) (B := (3 : Int)) (pc2 := 9) d_M_digit_6 rfl rfl (nI_toInt (by omega)) (nI_toInt (by omega)) (fun c1 => ?_) (fun c1 => ?_)
  · refine r_iload_n (pc2 := 21) d_M_digit_20 rfl rfl ?_
    refine r_bipush (v := nI 10) (pc2 := 23) d_M_digit_21 rfl (by decide) ?_
    refine q_iremN (pc2 := 24) d_M_digit_23 rfl (by omega) (by decide) (by decide) ?_
    refine Run.ret (some (.int (nI (v % 10)))) d_M_digit_24 ⟨_, rfl⟩ ?_
    have e : 3 - w = k - w := by omega
    rw [e, ← v2_] at hq
    exact hq
  · refine r_iload_n (pc2 := 10) d_M_digit_9 rfl rfl ?_
    refine r_bipush (v := nI 10) (pc2 := 12) d_M_digit_10 rfl (by decide) ?_
    refine q_idivN (pc2 := 13) d_M_digit_12 rfl (by omega) (by decide) (by decide) ?_
    refine r_istore_n (pc2 := 14) d_M_digit_13 rfl rfl (Nat.le_of_ble_eq_true rfl) ?_
    refine q_iinc (b := 1) (pc2 := 17) d_M_digit_14 rfl rfl (by decide) (Nat.le_of_ble_eq_true rfl) ?_
    refine r_goto (tgt := 4) d_M_digit_17 rfl ?_
    refine Run.sub (l2 := [(0, .int (nI a)), (1, .int (nI w)), (2, .int (nI (v / 10))), (3, .int (nI (k + 1)))]) ⟨rfl, rfl, rfl, rfl, trivial⟩ ?_
    exact ih_ (3 - (k + 1)) (by omega) (k + 1) (v / 10) rfl (by omega) (by omega) (dg_step v0_ v2_)
theorem c_M_digit {d : Nat} {h : HS} {a w : Nat} (ha : a < 2 ^ 31) (hw : w < 2 ^ 30) : Me mi_M_digit d 0 0 [.int (nI a), .int (nI w)] h (some (.int (nI (a / 10 ^ (3 - w) % 10)))) h := by
  refine Mt.of pn_M (Nat.le_of_ble_eq_true rfl) ?_
  show Run mi_M_digit d 0 0 0 [(0, .int (nI a)), (1, .int (nI w))] [] h _
  refine r_iload_n (pc2 := 1) d_M_digit_0 rfl rfl ?_
  refine r_istore_n (pc2 := 2) d_M_digit_1 rfl rfl (Nat.le_of_ble_eq_true rfl) ?_
  refine r_iload_n (pc2 := 3) d_M_digit_2 rfl rfl ?_
  refine r_istore_n (pc2 := 4) d_M_digit_3 rfl rfl (Nat.le_of_ble_eq_true rfl) ?_
  refine Run.sub (l2 := [(0, .int (nI a)), (1, .int (nI w)), (2, .int (nI a)), (3, .int (nI w))]) ⟨rfl, rfl, rfl, rfl, trivial⟩ ?_
  exact l_M_digit ha hw ⟨rfl, rfl⟩ _ w a rfl (Nat.le_refl _) (Or.inr rfl) (by rw [Nat.sub_self]; simp)
/-- the override of a key -/
def oB (G : Nat → Int32) (F n : Nat) (key : Int32) : Option Nat := fst1 (fun k => decide (G (174 + 84 * F + (20 + 2 * k)) = key)) n
theorem l_M_overrideOf {d : Nat} {I : Nat → Nat → Int32} {R : Nat → Nat → Option Nat} {L : Nat → Nat → Int64} {sh : Nat → Nat × Nat} {N : Nat} (hS : ShOK sh) (hR : RfOK R) {F nO : Nat} (hF : F < 12) (hO : I 762 (174 + 84 * F + 6) = nI nO) (hO8 : nO ≤ 8) {key : Int32} (hd : 1 ≤ d) {Q : Option Value → HS → Prop} (hq : Q (some (.int (vo (oB (I 762) F nO key)))) (I, R, L, sh, N)) : ∀ (n_ : Nat) (i : Nat), nO - i = n_ → (i ≤ nO) → (∀ j, j < i → I 762 (174 + 84 * F + (20 + 2 * j)) ≠ key) → Run mi_M_overrideOf d 0 0 2 [(0, .ref 761), (1, .int (nI F)), (2, .int key), (3, .int (nI i))] [] (I, R, L, sh, N) Q := by
  intro n_
  induction n_ using Nat.strongRecOn with | ind n_ ih_ => ?_
  intro i hn_ v0_ v1_
  refine r_iload_n (pc2 := 3) d_M_overrideOf_2 rfl rfl ?_
  refine r_aload_n (x := some 761) (pc2 := 4) d_M_overrideOf_3 rfl rfl ?_
  refine r_iload_n (pc2 := 5) d_M_overrideOf_4 rfl rfl ?_
  refine r_bipush (v := nI 6) (pc2 := 7) d_M_overrideOf_5 rfl (by decide) ?_
  refine q_callv (M2 := mi_M_of) (pc2 := 10) d_M_overrideOf_7 rfl k_M_76 cm_M_of cv_M_of (sh_761 hS) (by decide) rfl rfl rfl (Nat.le_of_ble_eq_true rfl) (c_M_of (I := I) (F := F) (W := 6) hS hR (by omega)) (d2 := d - 1) (by omega) (Nat.le_of_eq (Nat.zero_add _)) (Nat.le_of_eq (Nat.zero_add _)) ?_
  refine q_top (y := nI nO) (hO) ?_
  refine q_icmp_ge (tgt := 36) (A := ((i : Nat) : Int)) (B := ((nO : Nat) : Int)) (pc2 := 13) d_M_overrideOf_10 rfl rfl (nI_toInt (by omega)) (nI_toInt (by omega)) (fun c1 => ?_) (fun c1 => ?_)
  · refine r_iconst (v := (-1 : Int32)) (pc2 := 37) d_M_overrideOf_36 rfl (by decide) ?_
    refine Run.ret (some (.int ((-1 : Int32)))) d_M_overrideOf_37 ⟨_, rfl⟩ ?_
    rw [show (-1 : Int32) = vo (oB (I 762) F nO key) by unfold oB; rw [fst1_none (fun j hj => decide_eq_false (v1_ j (by omega)))]; rfl]; exact hq
  · refine r_aload_n (x := some 761) (pc2 := 14) d_M_overrideOf_13 rfl rfl ?_
    refine r_iload_n (pc2 := 15) d_M_overrideOf_14 rfl rfl ?_
    refine r_bipush (v := nI 20) (pc2 := 17) d_M_overrideOf_15 rfl (by decide) ?_
    refine r_iconst (v := nI 2) (pc2 := 18) d_M_overrideOf_17 rfl (by decide) ?_
    refine r_iload_n (pc2 := 19) d_M_overrideOf_18 rfl rfl ?_
    refine q_imulN (pc2 := 20) d_M_overrideOf_19 rfl ?_
    refine q_iaddN (pc2 := 21) d_M_overrideOf_20 rfl ?_
    refine q_callv (M2 := mi_M_of) (pc2 := 24) d_M_overrideOf_21 rfl k_M_76 cm_M_of cv_M_of (sh_761 hS) (by decide) rfl rfl rfl (Nat.le_of_ble_eq_true rfl) (c_M_of (I := I) (F := F) (W := 20 + 2 * i) hS hR (by omega)) (d2 := d - 1) (by omega) (Nat.le_of_eq (Nat.zero_add _)) (Nat.le_of_eq (Nat.zero_add _)) ?_
    refine r_iload_n (pc2 := 25) d_M_overrideOf_24 rfl rfl ?_
    refine q_icmp_ne (tgt := 30) (A := (I 762 (174 + 84 * F + (20 + 2 * i))).toInt) (B := key.toInt) (pc2 := 28) d_M_overrideOf_25 rfl rfl (rfl) (rfl) (fun c2 => ?_) (fun c2 => ?_)
    · refine q_iinc (b := 1) (pc2 := 33) d_M_overrideOf_30 rfl rfl (by decide) (Nat.le_of_ble_eq_true rfl) ?_
      refine r_goto (tgt := 2) d_M_overrideOf_33 rfl ?_
      refine Run.sub (l2 := [(0, .ref 761), (1, .int (nI F)), (2, .int key), (3, .int (nI (i + 1)))]) ⟨rfl, rfl, rfl, rfl, trivial⟩ ?_
      exact ih_ (nO - (i + 1)) (by omega) (i + 1) rfl (by omega) (fun j hj => by
        rcases Nat.lt_or_ge j i with q | q
        · exact v1_ j q
        · rw [show j = i by omega]; exact fun e => c2 (congrArg Int32.toInt e))
    · refine r_iload_n (pc2 := 29) d_M_overrideOf_28 rfl rfl ?_
      refine Run.ret (some (.int (nI i))) d_M_overrideOf_29 ⟨_, rfl⟩ ?_
      rw [show nI i = vo (oB (I 762) F nO key) by unfold oB; rw [fst1_some (i := i) (fun j hj => decide_eq_false (v1_ j hj)) (decide_eq_true (Int32.toInt_inj.mp c2)) (by omega)]; rfl]; exact hq
theorem c_M_overrideOf {d : Nat} {I : Nat → Nat → Int32} {R : Nat → Nat → Option Nat} {L : Nat → Nat → Int64} {sh : Nat → Nat × Nat} {N : Nat} (hS : ShOK sh) (hR : RfOK R) {F nO : Nat} (hF : F < 12) (hO : I 762 (174 + 84 * F + 6) = nI nO) (hO8 : nO ≤ 8) {key : Int32} (hd : 1 ≤ d) : Me mi_M_overrideOf d 0 0 [.ref 761, .int (nI F), .int key] (I, R, L, sh, N) (some (.int (vo (oB (I 762) F nO key)))) (I, R, L, sh, N) := by
  refine Mt.of pn_M (Nat.le_of_ble_eq_true rfl) ?_
  show Run mi_M_overrideOf d 0 0 0 [(0, .ref 761), (1, .int (nI F)), (2, .int key)] [] (I, R, L, sh, N) _
  refine r_iconst (v := nI 0) (pc2 := 1) d_M_overrideOf_0 rfl (by decide) ?_
  refine r_istore_n (pc2 := 2) d_M_overrideOf_1 rfl rfl (Nat.le_of_ble_eq_true rfl) ?_
  refine Run.sub (l2 := [(0, .ref 761), (1, .int (nI F)), (2, .int key), (3, .int (nI 0))]) ⟨rfl, rfl, rfl, rfl, trivial⟩ ?_
  exact l_M_overrideOf hS hR hF hO hO8 hd ⟨rfl, rfl⟩ _ 0 rfl (by omega) (fun j hj => absurd hj (by omega))
