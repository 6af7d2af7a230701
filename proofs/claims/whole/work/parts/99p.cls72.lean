/-! THE SPELLER: numbers -/
theorem dgN_0 {v : Nat} (h : v ≤ 9) : dgN v = 1 := by unfold dgN; rw [if_pos (by omega)]
theorem dgN_s {v : Nat} (h : 9 < v) (hv : v < 1000000) : dgN v = dgN (v / 10) + 1 := by
  unfold dgN
  repeat' split
  all_goals omega
theorem dgN_b {v : Nat} : 1 ≤ dgN v ∧ dgN v ≤ 6 := by
  unfold dgN
  repeat' split
  all_goals omega
/-- a number's letters -/
theorem spn_g : ∀ {v : Nat}, v < 1000000 → (spn v).length = dgN v ∧ ∀ j, j < dgN v → (spn v).getD j 0 = nI (48 + v / 10 ^ (dgN v - 1 - j) % 10) := by
  intro v
  induction v using Nat.strongRecOn with | ind v ih => ?_
  intro hv
  by_cases h : v ≤ 9
  · rw [spn_0 h, dgN_0 h]
    refine ⟨rfl, fun j hj => ?_⟩
    obtain rfl : j = 0 := by omega
    show nI (48 + v % 10) = nI (48 + v / 10 ^ 0 % 10)
    rw [Nat.pow_zero, Nat.div_one]
  · have h9 : 9 < v := by omega
    obtain ⟨e1, e2⟩ := ih (v / 10) (by omega) (by omega)
    rw [spn_s h9 hv, dgN_s h9 hv, List.length_append, e1]
    refine ⟨rfl, fun j hj => ?_⟩
    have hb := (dgN_b (v := v / 10)).1
    by_cases q : j < dgN (v / 10)
    · rw [List.getD_eq_getElem?_getD, List.getElem?_append_left (by rw [e1]; exact q), ← List.getD_eq_getElem?_getD, e2 j q, show dgN (v / 10) + 1 - 1 - j = dgN (v / 10) - 1 - j + 1 by omega, Nat.pow_succ, Nat.mul_comm (10 ^ (dgN (v / 10) - 1 - j)) 10, ← Nat.div_div_eq_div_mul]
    · obtain rfl : j = dgN (v / 10) := by omega
      rw [List.getD_eq_getElem?_getD, List.getElem?_append_right (by rw [e1]; exact Nat.le_refl _), e1, Nat.sub_self, show dgN (v / 10) + 1 - 1 - dgN (v / 10) = 0 by omega, Nat.pow_zero, Nat.div_one]
      rfl
theorem c_Sp_digitsOf {d : Nat} {h : HS} {v : Nat} (hv : v < 1000000) : Me mi_Sp_digitsOf d 0 0 [.int (nI v)] h (some (.int (nI (dgN v)))) h := by
  refine Mt.of pn_Sp (Nat.le_of_ble_eq_true rfl) ?_
  show Run mi_Sp_digitsOf d 0 0 0 [(0, .int (nI v))] [] h _
  refine r_iconst (v := nI 1) (pc2 := 1) d_Sp_digitsOf_0 rfl (by decide) ?_
  refine r_istore_n (pc2 := 2) d_Sp_digitsOf_1 rfl rfl (Nat.le_of_ble_eq_true rfl) ?_
  refine r_bipush (v := nI 10) (pc2 := 4) d_Sp_digitsOf_2 rfl (by decide) ?_
  refine r_istore_n (pc2 := 5) d_Sp_digitsOf_4 rfl rfl (Nat.le_of_ble_eq_true rfl) ?_
  refine r_iload_n (pc2 := 6) d_Sp_digitsOf_5 rfl rfl ?_
  refine r_ldc (pc2 := 8) d_Sp_digitsOf_6 rfl k_Sp_98 ?_
  refine q_top (y := nI 999999) (by decide) ?_
  refine q_icmp_gt (tgt := 27) (A := (10 : Int)) (B := (999999 : Int)) (pc2 := 11) d_Sp_digitsOf_8 rfl rfl (nI_toInt (by omega)) (nI_toInt (by omega)) (fun c1 => ?_) (fun c1 => ?_)
  · exfalso; omega
  refine r_iload_n (pc2 := 12) d_Sp_digitsOf_11 rfl rfl ?_
  refine r_iload_n (pc2 := 13) d_Sp_digitsOf_12 rfl rfl ?_
  refine q_icmp_lt (tgt := 27) (A := ((v : Nat) : Int)) (B := (10 : Int)) (pc2 := 16) d_Sp_digitsOf_13 rfl rfl (nI_toInt (by omega)) (nI_toInt (by omega)) (fun c2 => ?_) (fun c2 => ?_)
  · refine r_iload_n (pc2 := 28) d_Sp_digitsOf_27 rfl rfl ?_
    refine Run.ret (some (.int (nI 1))) d_Sp_digitsOf_28 ⟨_, rfl⟩ ?_
    exact ⟨by rw [show dgN v = 1 from by unfold dgN; rw [if_pos (by omega)]], rfl⟩
  · refine q_iinc (b := 1) (pc2 := 19) d_Sp_digitsOf_16 rfl rfl (by decide) (Nat.le_of_ble_eq_true rfl) ?_
    refine r_iload_n (pc2 := 20) d_Sp_digitsOf_19 rfl rfl ?_
    refine r_bipush (v := nI 10) (pc2 := 22) d_Sp_digitsOf_20 rfl (by decide) ?_
    refine q_imulN (pc2 := 23) d_Sp_digitsOf_22 rfl ?_
    refine r_istore_n (pc2 := 24) d_Sp_digitsOf_23 rfl rfl (Nat.le_of_ble_eq_true rfl) ?_
    refine r_goto (tgt := 5) d_Sp_digitsOf_24 rfl ?_
    refine r_iload_n (pc2 := 6) d_Sp_digitsOf_5 rfl rfl ?_
    refine r_ldc (pc2 := 8) d_Sp_digitsOf_6 rfl k_Sp_98 ?_
    refine q_top (y := nI 999999) (by decide) ?_
    refine q_icmp_gt (tgt := 27) (A := (100 : Int)) (B := (999999 : Int)) (pc2 := 11) d_Sp_digitsOf_8 rfl rfl (nI_toInt (by omega)) (nI_toInt (by omega)) (fun c3 => ?_) (fun c3 => ?_)
    · exfalso; omega
    refine r_iload_n (pc2 := 12) d_Sp_digitsOf_11 rfl rfl ?_
    refine r_iload_n (pc2 := 13) d_Sp_digitsOf_12 rfl rfl ?_
    refine q_icmp_lt (tgt := 27) (A := ((v : Nat) : Int)) (B := (100 : Int)) (pc2 := 16) d_Sp_digitsOf_13 rfl rfl (nI_toInt (by omega)) (nI_toInt (by omega)) (fun c4 => ?_) (fun c4 => ?_)
    · refine r_iload_n (pc2 := 28) d_Sp_digitsOf_27 rfl rfl ?_
      refine Run.ret (some (.int (nI 2))) d_Sp_digitsOf_28 ⟨_, rfl⟩ ?_
      exact ⟨by rw [show dgN v = 2 from by unfold dgN; rw [if_neg (by omega), if_pos (by omega)]], rfl⟩
    · refine q_iinc (b := 1) (pc2 := 19) d_Sp_digitsOf_16 rfl rfl (by decide) (Nat.le_of_ble_eq_true rfl) ?_
      refine r_iload_n (pc2 := 20) d_Sp_digitsOf_19 rfl rfl ?_
      refine r_bipush (v := nI 10) (pc2 := 22) d_Sp_digitsOf_20 rfl (by decide) ?_
      refine q_imulN (pc2 := 23) d_Sp_digitsOf_22 rfl ?_
      refine r_istore_n (pc2 := 24) d_Sp_digitsOf_23 rfl rfl (Nat.le_of_ble_eq_true rfl) ?_
      refine r_goto (tgt := 5) d_Sp_digitsOf_24 rfl ?_
      refine r_iload_n (pc2 := 6) d_Sp_digitsOf_5 rfl rfl ?_
      refine r_ldc (pc2 := 8) d_Sp_digitsOf_6 rfl k_Sp_98 ?_
      refine q_top (y := nI 999999) (by decide) ?_
      refine q_icmp_gt (tgt := 27) (A := (1000 : Int)) (B := (999999 : Int)) (pc2 := 11) d_Sp_digitsOf_8 rfl rfl (nI_toInt (by omega)) (nI_toInt (by omega)) (fun c5 => ?_) (fun c5 => ?_)
      · exfalso; omega
      refine r_iload_n (pc2 := 12) d_Sp_digitsOf_11 rfl rfl ?_
      refine r_iload_n (pc2 := 13) d_Sp_digitsOf_12 rfl rfl ?_
      refine q_icmp_lt (tgt := 27) (A := ((v : Nat) : Int)) (B := (1000 : Int)) (pc2 := 16) d_Sp_digitsOf_13 rfl rfl (nI_toInt (by omega)) (nI_toInt (by omega)) (fun c6 => ?_) (fun c6 => ?_)
      · refine r_iload_n (pc2 := 28) d_Sp_digitsOf_27 rfl rfl ?_
        refine Run.ret (some (.int (nI 3))) d_Sp_digitsOf_28 ⟨_, rfl⟩ ?_
        exact ⟨by rw [show dgN v = 3 from by unfold dgN; rw [if_neg (by omega), if_neg (by omega), if_pos (by omega)]], rfl⟩
      · refine q_iinc (b := 1) (pc2 := 19) d_Sp_digitsOf_16 rfl rfl (by decide) (Nat.le_of_ble_eq_true rfl) ?_
        refine r_iload_n (pc2 := 20) d_Sp_digitsOf_19 rfl rfl ?_
        refine r_bipush (v := nI 10) (pc2 := 22) d_Sp_digitsOf_20 rfl (by decide) ?_
        refine q_imulN (pc2 := 23) d_Sp_digitsOf_22 rfl ?_
        refine r_istore_n (pc2 := 24) d_Sp_digitsOf_23 rfl rfl (Nat.le_of_ble_eq_true rfl) ?_
        refine r_goto (tgt := 5) d_Sp_digitsOf_24 rfl ?_
        refine r_iload_n (pc2 := 6) d_Sp_digitsOf_5 rfl rfl ?_
        refine r_ldc (pc2 := 8) d_Sp_digitsOf_6 rfl k_Sp_98 ?_
        refine q_top (y := nI 999999) (by decide) ?_
        refine q_icmp_gt (tgt := 27) (A := (10000 : Int)) (B := (999999 : Int)) (pc2 := 11) d_Sp_digitsOf_8 rfl rfl (nI_toInt (by omega)) (nI_toInt (by omega)) (fun c7 => ?_) (fun c7 => ?_)
        · exfalso; omega
        refine r_iload_n (pc2 := 12) d_Sp_digitsOf_11 rfl rfl ?_
        refine r_iload_n (pc2 := 13) d_Sp_digitsOf_12 rfl rfl ?_
        refine q_icmp_lt (tgt := 27) (A := ((v : Nat) : Int)) (B := (10000 : Int)) (pc2 := 16) d_Sp_digitsOf_13 rfl rfl (nI_toInt (by omega)) (nI_toInt (by omega)) (fun c8 => ?_) (fun c8 => ?_)
        · refine r_iload_n (pc2 := 28) d_Sp_digitsOf_27 rfl rfl ?_
          refine Run.ret (some (.int (nI 4))) d_Sp_digitsOf_28 ⟨_, rfl⟩ ?_
          exact ⟨by rw [show dgN v = 4 from by unfold dgN; rw [if_neg (by omega), if_neg (by omega), if_neg (by omega), if_pos (by omega)]], rfl⟩
        · refine q_iinc (b := 1) (pc2 := 19) d_Sp_digitsOf_16 rfl rfl (by decide) (Nat.le_of_ble_eq_true rfl) ?_
          refine r_iload_n (pc2 := 20) d_Sp_digitsOf_19 rfl rfl ?_
          refine r_bipush (v := nI 10) (pc2 := 22) d_Sp_digitsOf_20 rfl (by decide) ?_
          refine q_imulN (pc2 := 23) d_Sp_digitsOf_22 rfl ?_
          refine r_istore_n (pc2 := 24) d_Sp_digitsOf_23 rfl rfl (Nat.le_of_ble_eq_true rfl) ?_
          refine r_goto (tgt := 5) d_Sp_digitsOf_24 rfl ?_
          refine r_iload_n (pc2 := 6) d_Sp_digitsOf_5 rfl rfl ?_
          refine r_ldc (pc2 := 8) d_Sp_digitsOf_6 rfl k_Sp_98 ?_
          refine q_top (y := nI 999999) (by decide) ?_
          refine q_icmp_gt (tgt := 27) (A := (100000 : Int)) (B := (999999 : Int)) (pc2 := 11) d_Sp_digitsOf_8 rfl rfl (nI_toInt (by omega)) (nI_toInt (by omega)) (fun c9 => ?_) (fun c9 => ?_)
          · exfalso; omega
          refine r_iload_n (pc2 := 12) d_Sp_digitsOf_11 rfl rfl ?_
          refine r_iload_n (pc2 := 13) d_Sp_digitsOf_12 rfl rfl ?_
          refine q_icmp_lt (tgt := 27) (A := ((v : Nat) : Int)) (B := (100000 : Int)) (pc2 := 16) d_Sp_digitsOf_13 rfl rfl (nI_toInt (by omega)) (nI_toInt (by omega)) (fun c10 => ?_) (fun c10 => ?_)
          · refine r_iload_n (pc2 := 28) d_Sp_digitsOf_27 rfl rfl ?_
            refine Run.ret (some (.int (nI 5))) d_Sp_digitsOf_28 ⟨_, rfl⟩ ?_
            exact ⟨by rw [show dgN v = 5 from by unfold dgN; rw [if_neg (by omega), if_neg (by omega), if_neg (by omega), if_neg (by omega), if_pos (by omega)]], rfl⟩
          · refine q_iinc (b := 1) (pc2 := 19) d_Sp_digitsOf_16 rfl rfl (by decide) (Nat.le_of_ble_eq_true rfl) ?_
            refine r_iload_n (pc2 := 20) d_Sp_digitsOf_19 rfl rfl ?_
            refine r_bipush (v := nI 10) (pc2 := 22) d_Sp_digitsOf_20 rfl (by decide) ?_
            refine q_imulN (pc2 := 23) d_Sp_digitsOf_22 rfl ?_
            refine r_istore_n (pc2 := 24) d_Sp_digitsOf_23 rfl rfl (Nat.le_of_ble_eq_true rfl) ?_
            refine r_goto (tgt := 5) d_Sp_digitsOf_24 rfl ?_
            refine r_iload_n (pc2 := 6) d_Sp_digitsOf_5 rfl rfl ?_
            refine r_ldc (pc2 := 8) d_Sp_digitsOf_6 rfl k_Sp_98 ?_
            refine q_top (y := nI 999999) (by decide) ?_
            refine q_icmp_gt (tgt := 27) (A := (1000000 : Int)) (B := (999999 : Int)) (pc2 := 11) d_Sp_digitsOf_8 rfl rfl (nI_toInt (by omega)) (nI_toInt (by omega)) (fun c11 => ?_) (fun c11 => ?_)
            rotate_left
            · exfalso; omega
            refine r_iload_n (pc2 := 28) d_Sp_digitsOf_27 rfl rfl ?_
            refine Run.ret (some (.int (nI 6))) d_Sp_digitsOf_28 ⟨_, rfl⟩ ?_
            exact ⟨by rw [show dgN v = 6 from by unfold dgN; rw [if_neg (by omega), if_neg (by omega), if_neg (by omega), if_neg (by omega), if_neg (by omega)]], rfl⟩
theorem c_Sp_put {d : Nat} {J : Nat → Nat → Int32} {R : Nat → Nat → Option Nat} {L : Nat → Nat → Int64} {sh : Nat → Nat × Nat} {N : Nat} (hS : ShOK sh) (hR : RfOK R) {a : Nat} {v : Int32} (ha : a < 270) : Mt mi_Sp_put d 0 0 [.ref 740, .int (nI a), .int v] (J, R, L, sh, N) (fun x h2 => x = none ∧ ∃ K, h2 = (K, R, L, sh, N) ∧ K = u2 J 743 a v) := by
  refine Mt.of pn_Sp (Nat.le_of_ble_eq_true rfl) ?_
  show Run mi_Sp_put d 0 0 0 [(0, .ref 740), (1, .int (nI a)), (2, .int v)] [] (J, R, L, sh, N) _
  refine r_iload_n (pc2 := 1) d_Sp_put_0 rfl rfl ?_
  refine q_if_lt (tgt := 18) (A := ((a : Nat) : Int)) (pc2 := 4) d_Sp_put_1 rfl rfl (nI_toInt (by omega)) (fun c1 => ?_) (fun c1 => ?_)
  · exfalso; omega
  refine r_iload_n (pc2 := 5) d_Sp_put_4 rfl rfl ?_
  refine r_sipush (v := nI 270) (pc2 := 8) d_Sp_put_5 rfl (by decide) ?_
  refine q_icmp_ge (tgt := 18) (A := ((a : Nat) : Int)) (B := (270 : Int)) (pc2 := 11) d_Sp_put_8 rfl rfl (nI_toInt (by omega)) (nI_toInt (by omega)) (fun c2 => ?_) (fun c2 => ?_)
  · refine Run.ret none d_Sp_put_18 rfl ?_
    exfalso; omega
  · refine r_aload_n (x := some 740) (pc2 := 12) d_Sp_put_11 rfl rfl ?_
    refine q_getR (x := some 743) (pc2 := 15) d_Sp_put_12 rfl k_Sp_18 rfl (sh_740 hS) (rf_740_2 hR) ?_
    refine r_iload_n (pc2 := 16) d_Sp_put_15 rfl rfl ?_
    refine r_iload_n (pc2 := 17) d_Sp_put_16 rfl rfl ?_
    refine q_iastore (q := a) (pc2 := 18) d_Sp_put_17 rfl (sh_743 hS) (nI_toInt (by omega)) (by omega) (fun I3 hI3 => ?_)
    refine Run.ret none d_Sp_put_18 rfl ?_
    exact ⟨rfl, _, rfl, hI3⟩
theorem l_Sp_putNumber {d : Nat} {J : Nat → Nat → Int32} {R : Nat → Nat → Option Nat} {L : Nat → Nat → Int64} {sh : Nat → Nat × Nat} {N : Nat} (hS : ShOK sh) (hR : RfOK R) {s v : Nat} (hs : 1 ≤ s) (hv : v < 1000000) (hb : s + dgN v ≤ 270) {Q : Option Value → HS → Prop} (hq : ∀ K, (∀ j, j < dgN v → K 743 (s + j) = (spn v).getD j 0) → (∀ a j, ¬ (a = 743 ∧ s ≤ j ∧ j < s + dgN v) → K a j = J a j) → Q (some (.int (nI (s + dgN v)))) (K, R, L, sh, N)) (hd : 1 ≤ d) : ∀ (n_ : Nat) (r u : Nat) (K : Nat → Nat → Int32), r = n_ → (u = v / 10 ^ (dgN v - r)) → (∀ j, r ≤ j → j < dgN v → K 743 (s + j) = (spn v).getD j 0) → (∀ a j, ¬ (a = 743 ∧ s ≤ j ∧ j < s + dgN v) → K a j = J a j) → (r ≤ dgN v) → Run mi_Sp_putNumber d 0 0 15 [(0, .ref 740), (1, .int (nI s)), (2, .int (nI v)), (3, .int (nI (s + dgN v))), (4, .int (nI u)), (5, .int (nI (s + r - 1)))] [] (K, R, L, sh, N) Q := by
  intro n_
  induction n_ using Nat.strongRecOn with | ind n_ ih_ => ?_
  intro r u K hn_ v0_ v1_ v2_ v3_
  have hdb := dgN_b (v := v)
  have hu6 : u < 1000000 := by rw [v0_]; exact Nat.lt_of_le_of_lt (Nat.div_le_self _ _) hv
  refine r_iload (pc2 := 17) d_Sp_putNumber_15 rfl rfl ?_
  refine r_iload_n (pc2 := 18) d_Sp_putNumber_17 rfl rfl ?_
  refine q_icmp_lt (tgt := 48) (A := ((s + r - 1 : Nat) : Int)) (B := ((s : Nat) : Int)) (pc2 := 21) d_Sp_putNumber_18 rfl rfl (nI_toInt (by omega)) (nI_toInt (by omega)) (fun c1 => ?_) (fun c1 => ?_)
  · refine r_iload_n (pc2 := 49) d_Sp_putNumber_48 rfl rfl ?_
    refine Run.ret (some (.int (nI (s + dgN v)))) d_Sp_putNumber_49 ⟨_, rfl⟩ ?_
    exact hq K (fun j hj => v1_ j (by omega) hj) v2_
  · refine r_aload_n (x := some 740) (pc2 := 22) d_Sp_putNumber_21 rfl rfl ?_
    refine r_iload (pc2 := 24) d_Sp_putNumber_22 rfl rfl ?_
    refine r_bipush (v := nI 48) (pc2 := 26) d_Sp_putNumber_24 rfl (by decide) ?_
    refine r_iload (pc2 := 28) d_Sp_putNumber_26 rfl rfl ?_
    refine r_bipush (v := nI 10) (pc2 := 30) d_Sp_putNumber_28 rfl (by decide) ?_
    refine q_iremN (pc2 := 31) d_Sp_putNumber_30 rfl (by omega) (by decide) (by decide) ?_
    refine q_iaddN (pc2 := 32) d_Sp_putNumber_31 rfl ?_
    refine r_callv (M2 := mi_Sp_put) (pc2 := 35) d_Sp_putNumber_32 rfl k_Sp_74 cm_Sp_put cv_Sp_put (sh_740 hS) (by decide) rfl rfl rfl (Nat.le_of_ble_eq_true rfl) (c_Sp_put (J := K) hS hR (a := s + r - 1) (v := nI (48 + (u % 10))) (by omega)) (d2 := d - 1) (by omega) (Nat.le_of_eq (Nat.zero_add _)) (Nat.le_of_eq (Nat.zero_add _)) (fun r2 h2 hq2 => ?_)
    obtain ⟨rfl, I2, rfl, hI2⟩ := hq2
    refine r_iload (pc2 := 37) d_Sp_putNumber_35 rfl rfl ?_
    refine r_bipush (v := nI 10) (pc2 := 39) d_Sp_putNumber_37 rfl (by decide) ?_
    refine q_idivN (pc2 := 40) d_Sp_putNumber_39 rfl (by omega) (by decide) (by decide) ?_
    refine r_istore (pc2 := 42) d_Sp_putNumber_40 rfl (Nat.le_of_ble_eq_true rfl) ?_
    obtain ⟨y3, ey3⟩ : ∃ y : Int32, y = nI (s + r - 1) + Int32.ofInt (-1) := ⟨_, rfl⟩
    refine r_iinc (v := y3) (pc2 := 45) d_Sp_putNumber_42 rfl rfl ey3.symm (Nat.le_of_ble_eq_true rfl) ?_
    refine r_goto (tgt := 15) d_Sp_putNumber_45 rfl ?_
    obtain rfl : y3 = nI (s + (r - 1) - 1) := by rw [ey3, nI_pred2]; exact eq_nI (by rw [nI_sub_toInt (by omega) (by omega)]; omega)
    refine Run.sub (l2 := [(0, .ref 740), (1, .int (nI s)), (2, .int (nI v)), (3, .int (nI (s + dgN v))), (4, .int (nI (u / 10))), (5, .int (nI (s + (r - 1) - 1)))]) ⟨rfl, rfl, rfl, rfl, rfl, rfl, trivial⟩ ?_
    exact ih_ ((r - 1)) (by omega) (r - 1) (u / 10) I2 rfl (by rw [v0_, Nat.div_div_eq_div_mul, ← Nat.pow_succ, show (dgN v - r).succ = dgN v - (r - 1) by omega]) (fun j h1 h2 => by
      by_cases q : j = r - 1
      · subst q; rw [show s + (r - 1) = s + r - 1 by omega, rd_eq hI2, (spn_g hv).2 _ (by omega), v0_, show dgN v - 1 - (r - 1) = dgN v - r by omega]
      · rw [rd_nk hI2 (by omega)]; exact v1_ j (by omega) h2) (fun a j q => (rd_nn hI2 (by omega)).trans (v2_ a j q)) (by omega)
theorem c_Sp_putNumber {d : Nat} {J : Nat → Nat → Int32} {R : Nat → Nat → Option Nat} {L : Nat → Nat → Int64} {sh : Nat → Nat × Nat} {N : Nat} (hS : ShOK sh) (hR : RfOK R) {s v : Nat} (hs : 1 ≤ s) (hv : v < 1000000) (hb : s + dgN v ≤ 270) (hd : 1 ≤ d) : Mt mi_Sp_putNumber d 0 0 [.ref 740, .int (nI s), .int (nI v)] (J, R, L, sh, N) (fun x h2 => x = some (.int (nI (s + dgN v))) ∧ ∃ K, h2 = (K, R, L, sh, N) ∧ (∀ j, j < dgN v → K 743 (s + j) = (spn v).getD j 0) ∧ ∀ a j, ¬ (a = 743 ∧ s ≤ j ∧ j < s + dgN v) → K a j = J a j) := by
  have hdb := dgN_b (v := v)
  refine Mt.of pn_Sp (Nat.le_of_ble_eq_true rfl) ?_
  show Run mi_Sp_putNumber d 0 0 0 [(0, .ref 740), (1, .int (nI s)), (2, .int (nI v))] [] (J, R, L, sh, N) _
  refine r_iload_n (pc2 := 1) d_Sp_putNumber_0 rfl rfl ?_
  refine r_iload_n (pc2 := 2) d_Sp_putNumber_1 rfl rfl ?_
  refine q_calls (M2 := mi_Sp_digitsOf) (pc2 := 5) d_Sp_putNumber_2 rfl k_Sp_60 cm_Sp_digitsOf cs_Sp_digitsOf rfl rfl (Nat.le_of_ble_eq_true rfl) (c_Sp_digitsOf (v := v) (by omega)) (d2 := d - 1) (by omega) (Nat.le_of_eq (Nat.zero_add _)) (Nat.le_of_eq (Nat.zero_add _)) ?_
  refine q_iaddN (pc2 := 6) d_Sp_putNumber_5 rfl ?_
  refine r_istore_n (pc2 := 7) d_Sp_putNumber_6 rfl rfl (Nat.le_of_ble_eq_true rfl) ?_
  refine r_iload_n (pc2 := 8) d_Sp_putNumber_7 rfl rfl ?_
  refine r_istore (pc2 := 10) d_Sp_putNumber_8 rfl (Nat.le_of_ble_eq_true rfl) ?_
  refine r_iload_n (pc2 := 11) d_Sp_putNumber_10 rfl rfl ?_
  refine r_iconst (v := nI 1) (pc2 := 12) d_Sp_putNumber_11 rfl (by decide) ?_
  refine q_isubN (pc2 := 13) d_Sp_putNumber_12 rfl (by omega) ?_
  refine r_istore (pc2 := 15) d_Sp_putNumber_13 rfl (Nat.le_of_ble_eq_true rfl) ?_
  refine Run.sub (l2 := [(0, .ref 740), (1, .int (nI s)), (2, .int (nI v)), (3, .int (nI (s + (dgN v)))), (4, .int (nI v)), (5, .int (nI (s + (dgN v) - 1)))]) ⟨rfl, rfl, rfl, rfl, rfl, rfl, trivial⟩ ?_
  exact l_Sp_putNumber hS hR hs hv hb (fun K a b => ⟨rfl, K, rfl, a, b⟩) hd _ (dgN v) v J rfl (by rw [Nat.sub_self, Nat.pow_zero, Nat.div_one]) (fun j h1 h2 => absurd h1 (by omega)) (fun _ _ _ => rfl) (Nat.le_refl _)
