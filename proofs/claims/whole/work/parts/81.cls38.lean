/-! THE CLASS: how many bits -/
/-! how many bits are set -/
theorem and_lane {k a b m n : Nat} (ha : a < 2 ^ k) (hm : m < 2 ^ k) : (2 ^ k * b + a) &&& (2 ^ k * n + m) = 2 ^ k * (b &&& n) + (a &&& m) := by
  refine Nat.eq_of_testBit_eq (fun i => ?_)
  rw [Nat.testBit_and, Nat.testBit_two_pow_mul_add b ha, Nat.testBit_two_pow_mul_add n hm, Nat.testBit_two_pow_mul_add (b &&& n) (Nat.and_lt_two_pow a hm)]
  split
  · rw [Nat.testBit_and]
  · rw [Nat.testBit_and]
theorem lane8 {a b m n : Nat} (ha : a < 256) (hm : m < 256) : (256 * b + a) &&& (256 * n + m) = 256 * (b &&& n) + (a &&& m) := and_lane (k := 8) ha hm
def g1 (M x : Nat) : Nat := x - ((x / 2) &&& M)
def g2 (M x : Nat) : Nat := (x &&& M) + ((x / 4) &&& M)
def g3 (M x : Nat) : Nat := (x + x / 16) &&& M
def pop8 (b : Nat) : Nat := b % 2 + b / 2 % 2 + b / 4 % 2 + b / 8 % 2 + b / 16 % 2 + b / 32 % 2 + b / 64 % 2 + b / 128 % 2
theorem g1_t : ∀ q, q < 2 → ∀ b, b < 256 → (128 * q + b / 2) &&& 85 = (b / 2) &&& 85 := by decide +kernel
theorem g2_t : ∀ q, q < 4 → ∀ b, b < 256 → (64 * q + b / 4) &&& 51 = (b / 4) &&& 51 := by decide +kernel
theorem g3_t : ∀ q, q < 5 → ∀ b, b < 256 → b % 16 ≤ 4 → b / 16 ≤ 4 → (b + 16 * q + b / 16) &&& 15 = (b + b / 16) &&& 15 := by decide +kernel
theorem g_t : ∀ b, b < 256 → g1 85 b < 256 ∧ g2 51 (g1 85 b) < 256 ∧ g2 51 (g1 85 b) % 16 ≤ 4 ∧ g2 51 (g1 85 b) / 16 ≤ 4 ∧ g3 15 (g2 51 (g1 85 b)) = pop8 b ∧ pop8 b ≤ 8 ∧ cnt (Nat.testBit b) 8 = pop8 b := by decide +kernel
theorem g1_s {h b M : Nat} (hb : b < 256) : g1 (256 * M + 85) (256 * h + b) = 256 * g1 M h + g1 85 b := by
  have e : (256 * h + b) / 2 = 256 * (h / 2) + (128 * (h % 2) + b / 2) := by omega
  unfold g1
  rw [e, lane8 (by omega) (by decide), g1_t _ (Nat.mod_lt _ (by decide)) b hb]
  have h1 : (h / 2) &&& M ≤ h / 2 := Nat.and_le_left
  have h2 : (b / 2) &&& 85 ≤ b / 2 := Nat.and_le_left
  generalize (h / 2) &&& M = y at *
  generalize (b / 2) &&& 85 = z at *
  omega
theorem g2_s {h b M : Nat} (hb : b < 256) : g2 (256 * M + 51) (256 * h + b) = 256 * g2 M h + g2 51 b := by
  have e : (256 * h + b) / 4 = 256 * (h / 4) + (64 * (h % 4) + b / 4) := by omega
  unfold g2
  rw [e, lane8 hb (by decide), lane8 (by omega) (by decide), g2_t _ (Nat.mod_lt _ (by decide)) b hb]
  generalize (h / 4) &&& M = y
  generalize (b / 4) &&& 51 = z
  generalize h &&& M = y2
  generalize b &&& 51 = z2
  omega
theorem g3_s {h b M : Nat} (hb : b < 256) (h1 : b % 16 ≤ 4) (h2 : b / 16 ≤ 4) (h3 : h % 16 ≤ 4) : g3 (256 * M + 15) (256 * h + b) = 256 * g3 M h + g3 15 b := by
  have e : 256 * h + b + (256 * h + b) / 16 = 256 * (h + h / 16) + (b + 16 * (h % 16) + b / 16) := by omega
  unfold g3
  rw [e, lane8 (by omega) (by decide), g3_t _ (by omega) b hb h1 h2]
def pop32 (X : Nat) : Nat := ((fun y4 => (y4 + y4 / 65536) &&& 63) ((fun y3 => y3 + y3 / 256) (g3 252645135 (g2 858993459 (g1 1431655765 X)))))
theorem pop32_eq {b0 b1 b2 b3 : Nat} (h0 : b0 < 256) (h1 : b1 < 256) (h2 : b2 < 256) (h3 : b3 < 256) : pop32 (256 * (256 * (256 * b3 + b2) + b1) + b0) = pop8 b0 + pop8 b1 + pop8 b2 + pop8 b3 ∧ g3 252645135 (g2 858993459 (g1 1431655765 (256 * (256 * (256 * b3 + b2) + b1) + b0))) = 256 * (256 * (256 * pop8 b3 + pop8 b2) + pop8 b1) + pop8 b0 := by
  obtain ⟨p0, q0, r0, s0, t0, u0, -⟩ := g_t b0 h0
  obtain ⟨p1, q1, r1, s1, t1, u1, -⟩ := g_t b1 h1
  obtain ⟨p2, q2, r2, s2, t2, u2, -⟩ := g_t b2 h2
  obtain ⟨p3, q3, r3, s3, t3, u3, -⟩ := g_t b3 h3
  have a1 : g1 1431655765 (256 * (256 * (256 * b3 + b2) + b1) + b0) = 256 * (256 * (256 * g1 85 b3 + g1 85 b2) + g1 85 b1) + g1 85 b0 := by
    rw [show 1431655765 = 256 * (256 * (256 * 85 + 85) + 85) + 85 from rfl, g1_s h0, g1_s h1, g1_s h2]
  have a2 : g2 858993459 (256 * (256 * (256 * g1 85 b3 + g1 85 b2) + g1 85 b1) + g1 85 b0) = 256 * (256 * (256 * g2 51 (g1 85 b3) + g2 51 (g1 85 b2)) + g2 51 (g1 85 b1)) + g2 51 (g1 85 b0) := by
    rw [show 858993459 = 256 * (256 * (256 * 51 + 51) + 51) + 51 from rfl, g2_s p0, g2_s p1, g2_s p2]
  rw [← t0] at u0
  rw [← t1] at u1
  rw [← t2] at u2
  rw [← t3] at u3
  rw [← t0, ← t1, ← t2, ← t3]
  clear t0 t1 t2 t3
  generalize g2 51 (g1 85 b0) = d0 at *
  generalize g2 51 (g1 85 b1) = d1 at *
  generalize g2 51 (g1 85 b2) = d2 at *
  generalize g2 51 (g1 85 b3) = d3 at *
  have a3 : g3 252645135 (256 * (256 * (256 * d3 + d2) + d1) + d0) = 256 * (256 * (256 * g3 15 d3 + g3 15 d2) + g3 15 d1) + g3 15 d0 := by
    rw [show 252645135 = 256 * (256 * (256 * 15 + 15) + 15) + 15 from rfl, g3_s q0 r0 s0 (by omega), g3_s q1 r1 s1 (by omega), g3_s q2 r2 s2 (by omega)]
  refine ⟨?_, by rw [a1, a2, a3]⟩
  unfold pop32
  rw [a1, a2, a3]
  generalize g3 15 d0 = e0 at *
  generalize g3 15 d1 = e1 at *
  generalize g3 15 d2 = e2 at *
  generalize g3 15 d3 = e3 at *
  clear a1 a2 a3
  dsimp only
  rw [show (63 : Nat) = 2 ^ 6 - 1 from rfl, Nat.and_two_pow_sub_one_eq_mod]
  have w1 : (256 * (256 * (256 * e3 + e2) + e1) + e0) / 256 = 256 * (256 * e3 + e2) + e1 := by omega
  rw [w1]
  have w2 : (256 * (256 * (256 * e3 + e2) + e1) + e0 + (256 * (256 * e3 + e2) + e1)) / 65536 = 256 * e3 + e2 + e3 := by omega
  rw [w2]
  omega
theorem cnt_add {P : Nat → Bool} {m : Nat} : ∀ {n : Nat}, cnt P (m + n) = cnt P m + cnt (fun i => P (m + i)) n
  | 0 => rfl
  | n + 1 => by
    rw [show m + (n + 1) = (m + n) + 1 from rfl, cnt_s, cnt_s, cnt_add]; omega
theorem cnt_tb {h b n : Nat} (hb : b < 256) : cnt (Nat.testBit (256 * h + b)) (8 + n) = pop8 b + cnt (Nat.testBit h) n := by
  rw [cnt_add, cnt_congr (P := Nat.testBit (256 * h + b)) (Q := Nat.testBit b) (fun j hj => by rw [show 256 * h + b = 2 ^ 8 * h + b from rfl, Nat.testBit_two_pow_mul_add h (show b < 2 ^ 8 from hb), if_pos hj]), (g_t b hb).2.2.2.2.2.2, cnt_congr (P := fun i => Nat.testBit (256 * h + b) (8 + i)) (Q := Nat.testBit h) (fun j hj => by
    rw [show 256 * h + b = 2 ^ 8 * h + b from rfl, Nat.testBit_two_pow_mul_add h (show b < 2 ^ 8 from hb), if_neg (by omega)]; congr 1; omega)]
theorem pop32_cnt {X : Nat} (hX : X < 4294967296) : pop32 X = cnt (Nat.testBit X) 32 ∧ pop32 X ≤ 32 ∧ ∃ e0 e1 e2 e3, e0 ≤ 8 ∧ e1 ≤ 8 ∧ e2 ≤ 8 ∧ e3 ≤ 8 ∧ g3 252645135 (g2 858993459 (g1 1431655765 X)) = 256 * (256 * (256 * e3 + e2) + e1) + e0 := by
  have e : X = 256 * (256 * (256 * (X / 16777216) + X / 65536 % 256) + X / 256 % 256) + X % 256 := by omega
  obtain ⟨b0, h0⟩ : ∃ b, b = X % 256 := ⟨_, rfl⟩
  obtain ⟨b1, h1⟩ : ∃ b, b = X / 256 % 256 := ⟨_, rfl⟩
  obtain ⟨b2, h2⟩ : ∃ b, b = X / 65536 % 256 := ⟨_, rfl⟩
  obtain ⟨b3, h3⟩ : ∃ b, b = X / 16777216 := ⟨_, rfl⟩
  have l0 : b0 < 256 := by omega
  have l1 : b1 < 256 := by omega
  have l2 : b2 < 256 := by omega
  have l3 : b3 < 256 := by omega
  rw [← h0, ← h1, ← h2, ← h3] at e
  obtain ⟨q1, q2⟩ := pop32_eq l0 l1 l2 l3
  have c0 := (g_t b0 l0).2.2.2.2.2.1
  have c1 := (g_t b1 l1).2.2.2.2.2.1
  have c2 := (g_t b2 l2).2.2.2.2.2.1
  have c3 := (g_t b3 l3).2.2.2.2.2.1
  rw [e]
  refine ⟨?_, by rw [q1]; omega, pop8 b0, pop8 b1, pop8 b2, pop8 b3, c0, c1, c2, c3, q2⟩
  rw [q1, show (32 : Nat) = 8 + (8 + (8 + 8)) from rfl, cnt_tb l0, cnt_tb l1, cnt_tb l2, (g_t b3 l3).2.2.2.2.2.2]
  omega
abbrev N32 (x : Int32) : Nat := x.toBitVec.toNat
theorem n_and {x y : Int32} : N32 (x &&& y) = N32 x &&& N32 y := by show (x &&& y).toBitVec.toNat = _; rw [Int32.toBitVec_and, BitVec.toNat_and]
theorem n_ushr {x : Int32} {k : Nat} (hk : k < 32) : N32 ((x.toUInt32 >>> ((nI k).toUInt32 &&& Int32.toUInt32 31)).toInt32) = N32 x / 2 ^ k := by
  show (x.toUInt32 >>> ((nI k).toUInt32 &&& Int32.toUInt32 31)).toBitVec.toNat = x.toUInt32.toBitVec.toNat / 2 ^ k
  rw [UInt32.toBitVec_shiftRight]
  show (x.toUInt32.toBitVec >>> (((nI k).toUInt32 &&& Int32.toUInt32 31).toBitVec % 32).toNat).toNat = _
  rw [s_u k hk, BitVec.toNat_ushiftRight, Nat.shiftRight_eq_div_pow]
theorem n_sub {x y : Int32} (h : N32 y ≤ N32 x) : N32 (x - y) = N32 x - N32 y := by
  show (x - y).toBitVec.toNat = _
  rw [Int32.toBitVec_sub, BitVec.toNat_sub]
  have := x.toBitVec.isLt
  have h2 : y.toBitVec.toNat ≤ x.toBitVec.toNat := h
  show _ = x.toBitVec.toNat - y.toBitVec.toNat
  omega
theorem n_add {x y : Int32} (h : N32 x + N32 y < 4294967296) : N32 (x + y) = N32 x + N32 y := by
  show (x + y).toBitVec.toNat = _
  rw [Int32.toBitVec_add, BitVec.toNat_add]
  exact Nat.mod_eq_of_lt h
theorem n_lt (x : Int32) : N32 x < 4294967296 := x.toBitVec.isLt
theorem eqN {x : Int32} {n : Nat} (h : N32 x = n) (hn : n < 1000) : x = nI n := eq_nI (by
  show x.toBitVec.toInt = _
  have h2 : x.toBitVec.toNat = n := h
  rw [BitVec.toInt_eq_toNat_of_lt (by omega), h2])
theorem bt_tb {x : Int32} : bt x = Nat.testBit (N32 x) := rfl
theorem cnt_bits {P : Nat → Bool} {n : Nat} (hn : n ≤ 32) : cnt (bt (bits P n)) 32 = cnt P n := by
  rw [cnt_tl (n := n) hn (fun j h1 h2 => by rw [bt_bits hn h2, decide_eq_false (by omega)]; rfl)]
  exact cnt_congr (fun j hj => by rw [bt_bits hn (by omega), decide_eq_true hj]; rfl)
theorem c_JI_bitCount {d : Nat} {J : Nat → Nat → Int32} {R : Nat → Nat → Option Nat} {L : Nat → Nat → Int64} {sh : Nat → Nat × Nat} {N : Nat}  {x : Int32} : Me mi_JI_bitCount d 0 0 [.int x] (J, R, L, sh, N) (some (.int (nI (cnt (bt x) 32)))) (J, R, L, sh, N) := by
  have k1 : N32 (nI 1431655765) = 1431655765 := by decide
  have k2 : N32 (nI 858993459) = 858993459 := by decide
  have k3 : N32 (nI 252645135) = 252645135 := by decide
  have k63 : N32 (nI 63) = 63 := by decide
  have hX := n_lt x
  obtain ⟨hp1, hp2, e0, e1, e2, e3, l0, l1, l2, l3, hg⟩ := pop32_cnt hX
  refine Mt.ofF (by decide +kernel) (Nat.le_of_ble_eq_true rfl) ?_
  show Run mi_JI_bitCount d 0 0 0 [(0, .int x)] [] (J, R, L, sh, N) _
  refine r_iload_n (pc2 := 1) d_JI_bitCount_0 rfl rfl ?_
  refine r_iload_n (pc2 := 2) d_JI_bitCount_1 rfl rfl ?_
  refine r_iconst (v := nI 1) (pc2 := 3) d_JI_bitCount_2 rfl (by decide) ?_
  refine r_iushr (pc2 := 4) d_JI_bitCount_3 rfl ?_
  refine r_ldcw (pc2 := 7) d_JI_bitCount_4 rfl k_JI_265 ?_
  refine q_top (y := nI 1431655765) (by decide) ?_
  refine r_iand (pc2 := 8) d_JI_bitCount_7 rfl ?_
  refine r_isub (pc2 := 9) d_JI_bitCount_8 rfl ?_
  refine r_istore_n (pc2 := 10) d_JI_bitCount_9 rfl rfl (Nat.le_of_ble_eq_true rfl) ?_
  obtain ⟨y1, hy1⟩ : ∃ y, y = x - (((x.toUInt32 >>> ((nI 1).toUInt32 &&& Int32.toUInt32 31)).toInt32) &&& (nI 1431655765)) := ⟨_, rfl⟩
  rw [← hy1]
  have n1 : N32 y1 = g1 1431655765 (N32 x) := by
    rw [hy1, n_sub (by rw [n_and, n_ushr (by decide)]; exact Nat.le_trans Nat.and_le_left (Nat.div_le_self _ _)), n_and, n_ushr (by decide), k1]; rfl
  have m1 := n_lt y1
  refine r_iload_n (pc2 := 11) d_JI_bitCount_10 rfl rfl ?_
  refine r_ldcw (pc2 := 14) d_JI_bitCount_11 rfl k_JI_266 ?_
  refine q_top (y := nI 858993459) (by decide) ?_
  refine r_iand (pc2 := 15) d_JI_bitCount_14 rfl ?_
  refine r_iload_n (pc2 := 16) d_JI_bitCount_15 rfl rfl ?_
  refine r_iconst (v := nI 2) (pc2 := 17) d_JI_bitCount_16 rfl (by decide) ?_
  refine r_iushr (pc2 := 18) d_JI_bitCount_17 rfl ?_
  refine r_ldcw (pc2 := 21) d_JI_bitCount_18 rfl k_JI_266 ?_
  refine q_top (y := nI 858993459) (by decide) ?_
  refine r_iand (pc2 := 22) d_JI_bitCount_21 rfl ?_
  refine r_iadd (pc2 := 23) d_JI_bitCount_22 rfl ?_
  refine r_istore_n (pc2 := 24) d_JI_bitCount_23 rfl rfl (Nat.le_of_ble_eq_true rfl) ?_
  obtain ⟨y2, hy2⟩ : ∃ y, y = (y1 &&& (nI 858993459)) + (((y1.toUInt32 >>> ((nI 2).toUInt32 &&& Int32.toUInt32 31)).toInt32) &&& (nI 858993459)) := ⟨_, rfl⟩
  rw [← hy2]
  have n2 : N32 y2 = g2 858993459 (N32 y1) := by
    rw [hy2, n_add (by rw [n_and, n_and, k2]; have a1 : N32 y1 &&& 858993459 ≤ 858993459 := Nat.and_le_right
                       have a2 : N32 ((y1.toUInt32 >>> ((nI 2).toUInt32 &&& Int32.toUInt32 31)).toInt32) &&& 858993459 ≤ 858993459 := Nat.and_le_right
                       omega), n_and, n_and, n_ushr (by decide), k2]; rfl
  refine r_iload_n (pc2 := 25) d_JI_bitCount_24 rfl rfl ?_
  refine r_iload_n (pc2 := 26) d_JI_bitCount_25 rfl rfl ?_
  refine r_iconst (v := nI 4) (pc2 := 27) d_JI_bitCount_26 rfl (by decide) ?_
  refine r_iushr (pc2 := 28) d_JI_bitCount_27 rfl ?_
  refine r_iadd (pc2 := 29) d_JI_bitCount_28 rfl ?_
  refine r_ldcw (pc2 := 32) d_JI_bitCount_29 rfl k_JI_267 ?_
  refine q_top (y := nI 252645135) (by decide) ?_
  refine r_iand (pc2 := 33) d_JI_bitCount_32 rfl ?_
  refine r_istore_n (pc2 := 34) d_JI_bitCount_33 rfl rfl (Nat.le_of_ble_eq_true rfl) ?_
  obtain ⟨y3, hy3⟩ : ∃ y, y = (y2 + ((y2.toUInt32 >>> ((nI 4).toUInt32 &&& Int32.toUInt32 31)).toInt32)) &&& (nI 252645135) := ⟨_, rfl⟩
  rw [← hy3]
  have b2 : N32 y2 ≤ 1717986918 := by
    rw [n2]; unfold g2
    have a1 : N32 y1 &&& 858993459 ≤ 858993459 := Nat.and_le_right
    have a2 : (N32 y1 / 4) &&& 858993459 ≤ 858993459 := Nat.and_le_right
    omega
  have n3 : N32 y3 = g3 252645135 (N32 y2) := by
    rw [hy3, n_and, n_add (by rw [n_ushr (by decide)]; omega), n_ushr (by decide), k3]; rfl
  have n3b : N32 y3 = 256 * (256 * (256 * e3 + e2) + e1) + e0 := by rw [n3, n2, n1]; exact hg
  refine r_iload_n (pc2 := 35) d_JI_bitCount_34 rfl rfl ?_
  refine r_iload_n (pc2 := 36) d_JI_bitCount_35 rfl rfl ?_
  refine r_bipush (v := nI 8) (pc2 := 38) d_JI_bitCount_36 rfl (by decide) ?_
  refine r_iushr (pc2 := 39) d_JI_bitCount_38 rfl ?_
  refine r_iadd (pc2 := 40) d_JI_bitCount_39 rfl ?_
  refine r_istore_n (pc2 := 41) d_JI_bitCount_40 rfl rfl (Nat.le_of_ble_eq_true rfl) ?_
  obtain ⟨y4, hy4⟩ : ∃ y, y = y3 + ((y3.toUInt32 >>> ((nI 8).toUInt32 &&& Int32.toUInt32 31)).toInt32) := ⟨_, rfl⟩
  rw [← hy4]
  have n4 : N32 y4 = N32 y3 + N32 y3 / 256 := by rw [hy4, n_add (by rw [n_ushr (by decide)]; omega), n_ushr (by decide)]
  refine r_iload_n (pc2 := 42) d_JI_bitCount_41 rfl rfl ?_
  refine r_iload_n (pc2 := 43) d_JI_bitCount_42 rfl rfl ?_
  refine r_bipush (v := nI 16) (pc2 := 45) d_JI_bitCount_43 rfl (by decide) ?_
  refine r_iushr (pc2 := 46) d_JI_bitCount_45 rfl ?_
  refine r_iadd (pc2 := 47) d_JI_bitCount_46 rfl ?_
  refine r_istore_n (pc2 := 48) d_JI_bitCount_47 rfl rfl (Nat.le_of_ble_eq_true rfl) ?_
  obtain ⟨y5, hy5⟩ : ∃ y, y = y4 + ((y4.toUInt32 >>> ((nI 16).toUInt32 &&& Int32.toUInt32 31)).toInt32) := ⟨_, rfl⟩
  rw [← hy5]
  have n5 : N32 y5 = N32 y4 + N32 y4 / 65536 := by rw [hy5, n_add (by rw [n_ushr (by decide)]; omega), n_ushr (by decide)]
  refine r_iload_n (pc2 := 49) d_JI_bitCount_48 rfl rfl ?_
  refine r_bipush (v := nI 63) (pc2 := 51) d_JI_bitCount_49 rfl (by decide) ?_
  refine r_iand (pc2 := 52) d_JI_bitCount_51 rfl ?_
  refine Run.ret (some (.int (y5 &&& (nI 63)))) d_JI_bitCount_52 ⟨_, rfl⟩ ?_
  have hr : y5 &&& (nI 63) = nI (cnt (bt x) 32) := by
    refine eqN ?_ (by rw [bt_tb, ← hp1]; omega)
    rw [n_and, k63, n5, n4, n3, n2, n1, bt_tb, ← hp1]; rfl
  exact ⟨by rw [hr], rfl⟩
