/-! A CONDITION IS MADE -/
/-- a condition made of the reader's rows -/
def CoN (c m : Nat) (I K : Nat → Nat → Int32) (R1 : Nat → Nat → Option Nat) (sh1 : Nat → Nat × Nat) : Prop :=
  (sh1 c = (1, 0) ∧ sh1 (c + 1) = (12, m) ∧ sh1 (c + 2) = (12, m) ∧ sh1 (c + 3) = (12, m) ∧ sh1 (c + 4) = (12, m) ∧ sh1 (c + 5) = (14, m)) ∧ (R1 c 0 = some (c + 1) ∧ R1 c 1 = some (c + 2) ∧ R1 c 2 = some (c + 3) ∧ R1 c 3 = some (c + 4) ∧ R1 c 4 = some (c + 5)) ∧ ∀ j, j < m → K (c + 1) j = I 734 j ∧ K (c + 2) j = I 735 j ∧ K (c + 3) j = I 736 j ∧ K (c + 4) j = I 737 j
/-- cells below N stand as they were -/
def FrB (N : Nat) (I : Nat → Nat → Int32) (R : Nat → Nat → Option Nat) (L : Nat → Nat → Int64) (sh : Nat → Nat × Nat) (K : Nat → Nat → Int32) (R1 : Nat → Nat → Option Nat) (L1 : Nat → Nat → Int64) (sh1 : Nat → Nat × Nat) : Prop :=
  (∀ a j, a < N → K a j = I a j) ∧ (∀ a j, a < N → R1 a j = R a j) ∧ (∀ a j, a < N → L1 a j = L a j) ∧ ∀ a, a < N → sh1 a = sh a
theorem c_Co_init {d : Nat} {I : Nat → Nat → Int32} {R : Nat → Nat → Option Nat} {L : Nat → Nat → Int64} {sh : Nat → Nat × Nat} {c m : Nat} (hS : ShOK sh) (hc0 : sh c = (1, 0)) (hc : 781 ≤ c) (hm : 0 < m) (hm2 : m < 250) (hN : ShN sh (c + 1)) (hd : 4 ≤ d) : Mt mi_Co_init d 5 (5 * m) [.ref c, .ref 734, .ref 735, .ref 736, .ref 737, .int (nI m)] (I, R, L, sh, c + 1) (fun x h2 => x = none ∧ ∃ K R1 L1 sh1, h2 = (K, R1, L1, sh1, c + 6) ∧ FrB c I R L sh K R1 L1 sh1 ∧ CoN c m I K R1 sh1 ∧ ShN sh1 (c + 6)) := by
  refine Mt.of pn_Co (Nat.le_of_ble_eq_true rfl) ?_
  show Run mi_Co_init d 5 (5 * m) 0 [(0, .ref c), (1, .ref 734), (2, .ref 735), (3, .ref 736), (4, .ref 737), (5, .int (nI m))] [] (I, R, L, sh, c + 1) _
  refine r_aload_n (x := some c) (pc2 := 1) d_Co_init_0 rfl rfl ?_
  refine r_objInit (pc2 := 4) d_Co_init_1 rfl k_Co_3 oi_inst oi_code (by omega) (Nat.le_of_ble_eq_true rfl) ?_
  refine r_aload_n (x := some c) (pc2 := 5) d_Co_init_4 rfl rfl ?_
  refine r_aload_n (x := some 734) (pc2 := 6) d_Co_init_5 rfl rfl ?_
  refine r_iload (pc2 := 8) d_Co_init_6 rfl rfl ?_
  refine r_calls (M2 := mi_JA_copyOf) (pc2 := 11) d_Co_init_8 rfl k_Co_9 cm_JA_copyOf cs_JA_copyOf rfl rfl (Nat.le_of_ble_eq_true rfl) (c_JA_copyOf (I := I) (R := R) (L := L) (sh := sh) (N := c + 1) (A := 734) (n0 := 250) (m := m) (sh_734 hS) (by omega) (by omega) (by omega) (by omega)) (d2 := d - 1) (ac1 := 4) (az1 := 4 * m) (by omega) (by omega) (by omega) (fun r2 h2 hq2 => ?_)
  obtain ⟨rfl, K1, Rc1, L1, S1, rfl, hal1, hcp1⟩ := hq2
  have hS1 := hal1.sh (by omega) hS
  have hN1 := hal1.n hN
  have hc1 : S1 c = (1, 0) := (hal1.2.2.2.1 c (by omega)).trans hc0
  refine q_putR (x := some (c + 1)) (pc2 := 14) d_Co_init_11 rfl k_Co_15 rfl hc1 (Or.inr ⟨rfl, rfl⟩) (fun R1 hR1 => ?_)
  refine r_aload_n (x := some c) (pc2 := 15) d_Co_init_14 rfl rfl ?_
  refine r_aload_n (x := some 735) (pc2 := 16) d_Co_init_15 rfl rfl ?_
  refine r_iload (pc2 := 18) d_Co_init_16 rfl rfl ?_
  refine r_calls (M2 := mi_JA_copyOf) (pc2 := 21) d_Co_init_18 rfl k_Co_9 cm_JA_copyOf cs_JA_copyOf rfl rfl (Nat.le_of_ble_eq_true rfl) (c_JA_copyOf (I := K1) (R := R1) (L := L1) (sh := S1) (N := c + 2) (A := 735) (n0 := 250) (m := m) (sh_735 hS1) (by omega) (by omega) (by omega) (by omega)) (d2 := d - 1) (ac1 := 3) (az1 := 3 * m) (by omega) (by omega) (by omega) (fun r2 h2 hq2 => ?_)
  obtain ⟨rfl, K2, Rc2, L2, S2, rfl, hal2, hcp2⟩ := hq2
  have hS2 := hal2.sh (by omega) hS1
  have hN2 := hal2.n hN1
  have hc2 : S2 c = (1, 0) := (hal2.2.2.2.1 c (by omega)).trans hc1
  refine q_putR (x := some (c + 2)) (pc2 := 24) d_Co_init_21 rfl k_Co_21 rfl hc2 (Or.inr ⟨rfl, rfl⟩) (fun R2 hR2 => ?_)
  refine r_aload_n (x := some c) (pc2 := 25) d_Co_init_24 rfl rfl ?_
  refine r_aload_n (x := some 736) (pc2 := 26) d_Co_init_25 rfl rfl ?_
  refine r_iload (pc2 := 28) d_Co_init_26 rfl rfl ?_
  refine r_calls (M2 := mi_JA_copyOf) (pc2 := 31) d_Co_init_28 rfl k_Co_9 cm_JA_copyOf cs_JA_copyOf rfl rfl (Nat.le_of_ble_eq_true rfl) (c_JA_copyOf (I := K2) (R := R2) (L := L2) (sh := S2) (N := c + 3) (A := 736) (n0 := 250) (m := m) (sh_736 hS2) (by omega) (by omega) (by omega) (by omega)) (d2 := d - 1) (ac1 := 2) (az1 := 2 * m) (by omega) (by omega) (by omega) (fun r2 h2 hq2 => ?_)
  obtain ⟨rfl, K3, Rc3, L3, S3, rfl, hal3, hcp3⟩ := hq2
  have hS3 := hal3.sh (by omega) hS2
  have hN3 := hal3.n hN2
  have hc3 : S3 c = (1, 0) := (hal3.2.2.2.1 c (by omega)).trans hc2
  refine q_putR (x := some (c + 3)) (pc2 := 34) d_Co_init_31 rfl k_Co_24 rfl hc3 (Or.inr ⟨rfl, rfl⟩) (fun R3 hR3 => ?_)
  refine r_aload_n (x := some c) (pc2 := 35) d_Co_init_34 rfl rfl ?_
  refine r_aload (x := some 737) (pc2 := 37) d_Co_init_35 rfl rfl ?_
  refine r_iload (pc2 := 39) d_Co_init_37 rfl rfl ?_
  refine r_calls (M2 := mi_JA_copyOf) (pc2 := 42) d_Co_init_39 rfl k_Co_9 cm_JA_copyOf cs_JA_copyOf rfl rfl (Nat.le_of_ble_eq_true rfl) (c_JA_copyOf (I := K3) (R := R3) (L := L3) (sh := S3) (N := c + 4) (A := 737) (n0 := 250) (m := m) (sh_737 hS3) (by omega) (by omega) (by omega) (by omega)) (d2 := d - 1) (ac1 := 1) (az1 := 1 * m) (by omega) (by omega) (by omega) (fun r2 h2 hq2 => ?_)
  obtain ⟨rfl, K4, Rc4, L4, S4, rfl, hal4, hcp4⟩ := hq2
  have hS4 := hal4.sh (by omega) hS3
  have hN4 := hal4.n hN3
  have hc4 : S4 c = (1, 0) := (hal4.2.2.2.1 c (by omega)).trans hc3
  refine q_putR (x := some (c + 4)) (pc2 := 45) d_Co_init_42 rfl k_Co_27 rfl hc4 (Or.inr ⟨rfl, rfl⟩) (fun R4 hR4 => ?_)
  refine r_aload_n (x := some c) (pc2 := 46) d_Co_init_45 rfl rfl ?_
  refine r_iload (pc2 := 48) d_Co_init_46 rfl rfl ?_
  refine r_newarray (at_ := .boolean) (len := m) (pc2 := 50) (ac1 := 0) (az1 := 0) d_Co_init_48 rfl (by decide) aw_boolean (nI_toInt (by omega)) (by omega) (by omega) (by omega) ?_
  obtain ⟨K5, R5, L5, S5, hal5, hzr5, e1_, e2_, e3_, e4_⟩ : ∃ K R1 L1 S1, AL 14 (m) (c + 5) K4 R4 L4 S4 K R1 L1 S1 ∧ ZR (c + 5) K R1 ∧ K = z1 K4 (c + 5) 0 ∧ R1 = z1 R4 (c + 5) none ∧ L1 = z1 L4 (c + 5) 0 ∧ S1 = s1 S4 (c + 5) (14, m) := ⟨_, _, _, _, al_z, zr_z, rfl, rfl, rfl, rfl⟩
  show Run _ _ _ _ _ _ _ (z1 K4 (c + 5) 0, z1 R4 (c + 5) none, z1 L4 (c + 5) 0, s1 S4 (c + 5) (14, m), (c + 5) + 1) _
  rw [← e1_, ← e2_, ← e3_, ← e4_]
  clear e1_ e2_ e3_ e4_
  have hc5 : S5 c = (1, 0) := (hal5.2.2.2.1 c (by omega)).trans hc4
  refine q_putR (x := some (c + 5)) (pc2 := 53) d_Co_init_50 rfl k_Co_30 rfl hc5 (Or.inr ⟨rfl, rfl⟩) (fun R5 hR5 => ?_)
  refine Run.ret none d_Co_init_53 rfl ?_
  refine ⟨rfl, _, _, _, _, rfl, ⟨fun a j q => ((hal5.1 a j (by omega)).trans ((hal4.1 a j (by omega)).trans ((hal3.1 a j (by omega)).trans ((hal2.1 a j (by omega)).trans (hal1.1 a j (by omega)))))), fun a j q => ((rd_ne hR5 (by omega)).trans ((hal5.2.1 a j (by omega)).trans ((rd_ne hR4 (by omega)).trans ((hal4.2.1 a j (by omega)).trans ((rd_ne hR3 (by omega)).trans ((hal3.2.1 a j (by omega)).trans ((rd_ne hR2 (by omega)).trans ((hal2.2.1 a j (by omega)).trans ((rd_ne hR1 (by omega)).trans (hal1.2.1 a j (by omega))))))))))), fun a j q => ((hal5.2.2.1 a j (by omega)).trans ((hal4.2.2.1 a j (by omega)).trans ((hal3.2.2.1 a j (by omega)).trans ((hal2.2.2.1 a j (by omega)).trans (hal1.2.2.1 a j (by omega)))))), fun a q => ((hal5.2.2.2.1 a (by omega)).trans ((hal4.2.2.2.1 a (by omega)).trans ((hal3.2.2.2.1 a (by omega)).trans ((hal2.2.2.2.1 a (by omega)).trans (hal1.2.2.2.1 a (by omega))))))⟩, ⟨⟨hc5, (hal5.2.2.2.1 _ (by omega)).trans ((hal4.2.2.2.1 _ (by omega)).trans ((hal3.2.2.2.1 _ (by omega)).trans ((hal2.2.2.2.1 _ (by omega)).trans (hal1.2.2.2.2)))), (hal5.2.2.2.1 _ (by omega)).trans ((hal4.2.2.2.1 _ (by omega)).trans ((hal3.2.2.2.1 _ (by omega)).trans (hal2.2.2.2.2))), (hal5.2.2.2.1 _ (by omega)).trans ((hal4.2.2.2.1 _ (by omega)).trans (hal3.2.2.2.2)), (hal5.2.2.2.1 _ (by omega)).trans (hal4.2.2.2.2), hal5.2.2.2.2⟩, ⟨(rd_nk hR5 (by decide)).trans ((hal5.2.1 c 0 (by omega)).trans ((rd_nk hR4 (by decide)).trans ((hal4.2.1 c 0 (by omega)).trans ((rd_nk hR3 (by decide)).trans ((hal3.2.1 c 0 (by omega)).trans ((rd_nk hR2 (by decide)).trans ((hal2.2.1 c 0 (by omega)).trans (rd_eq hR1)))))))), (rd_nk hR5 (by decide)).trans ((hal5.2.1 c 1 (by omega)).trans ((rd_nk hR4 (by decide)).trans ((hal4.2.1 c 1 (by omega)).trans ((rd_nk hR3 (by decide)).trans ((hal3.2.1 c 1 (by omega)).trans (rd_eq hR2)))))), (rd_nk hR5 (by decide)).trans ((hal5.2.1 c 2 (by omega)).trans ((rd_nk hR4 (by decide)).trans ((hal4.2.1 c 2 (by omega)).trans (rd_eq hR3)))), (rd_nk hR5 (by decide)).trans ((hal5.2.1 c 3 (by omega)).trans (rd_eq hR4)), rd_eq hR5⟩, fun j hj => ⟨(hal5.1 _ _ (by omega)).trans ((hal4.1 _ _ (by omega)).trans ((hal3.1 _ _ (by omega)).trans ((hal2.1 _ _ (by omega)).trans (hcp1 j hj)))), (hal5.1 _ _ (by omega)).trans ((hal4.1 _ _ (by omega)).trans ((hal3.1 _ _ (by omega)).trans ((hcp2 j hj).trans (hal1.1 735 j (by omega))))), (hal5.1 _ _ (by omega)).trans ((hal4.1 _ _ (by omega)).trans ((hcp3 j hj).trans ((hal2.1 736 j (by omega)).trans (hal1.1 736 j (by omega))))), (hal5.1 _ _ (by omega)).trans ((hcp4 j hj).trans ((hal3.1 737 j (by omega)).trans ((hal2.1 737 j (by omega)).trans (hal1.1 737 j (by omega)))))⟩⟩, hal5.n hN4⟩
theorem c_Re_makeCondition {d : Nat} {I : Nat → Nat → Int32} {R : Nat → Nat → Option Nat} {L : Nat → Nat → Int64} {sh : Nat → Nat × Nat} {N : Nat} {m : Nat} (hS : ShOK sh) (hR : RfOK R) (hN : 781 ≤ N) (hNs : ShN sh N) (hm9 : I 731 9 = nI m) (hm : 0 < m) (hm2 : m < 250) (hd : 6 ≤ d) : Mt mi_Re_makeCondition d 6 (5 + 5 * m) [.ref 731] (I, R, L, sh, N) (fun x h2 => x = some (.ref N) ∧ ∃ K R1 L1 sh1, h2 = (K, R1, L1, sh1, N + 6) ∧ FrB N I R L sh K R1 L1 sh1 ∧ CoN N m I K R1 sh1 ∧ ShN sh1 (N + 6)) := by
  refine Mt.of pn_Re (Nat.le_of_ble_eq_true rfl) ?_
  show Run mi_Re_makeCondition d 6 (5 + 5 * m) 0 [(0, .ref 731)] [] (I, R, L, sh, N) _
  refine r_new (ci := 1) (pc2 := 3) (ac1 := 5) (az1 := 5 * m) d_Re_makeCondition_0 rfl (by decide) k_Re_76 nw_Co iw_Co (by omega) (by show 5 + 5 * m ≤ 5 + 5 * m; omega) ?_
  obtain ⟨K0, R0, L0, S0, hal0, e1_, e2_, e3_, e4_⟩ : ∃ K R1 L1 S1, AL 1 0 N I R L sh K R1 L1 S1 ∧ K = z1 I N 0 ∧ R1 = z1 R N none ∧ L1 = z1 L N 0 ∧ S1 = s1 sh N (1, 0) := ⟨_, _, _, _, al_z, rfl, rfl, rfl, rfl⟩
  rw [← e1_, ← e2_, ← e3_, ← e4_]
  clear e1_ e2_ e3_ e4_
  have hS0 := hal0.sh hN hS
  have hN0 := hal0.n hNs
  have h9 : K0 731 9 = nI m := (hal0.1 _ _ (by omega)).trans hm9
  have hr5 : R0 731 5 = some 734 := (hal0.2.1 _ _ (by omega)).trans (rf_731_5 hR)
  have hr6 : R0 731 6 = some 735 := (hal0.2.1 _ _ (by omega)).trans (rf_731_6 hR)
  have hr7 : R0 731 7 = some 736 := (hal0.2.1 _ _ (by omega)).trans (rf_731_7 hR)
  have hr8 : R0 731 8 = some 737 := (hal0.2.1 _ _ (by omega)).trans (rf_731_8 hR)
  refine r_dup (pc2 := 4) d_Re_makeCondition_3 rfl rfl ?_
  refine r_aload_n (x := some 731) (pc2 := 5) d_Re_makeCondition_4 rfl rfl ?_
  refine q_getR (x := some 734) (pc2 := 8) d_Re_makeCondition_5 rfl k_Re_28 rfl (sh_731 hS0) hr5 ?_
  refine r_aload_n (x := some 731) (pc2 := 9) d_Re_makeCondition_8 rfl rfl ?_
  refine q_getR (x := some 735) (pc2 := 12) d_Re_makeCondition_9 rfl k_Re_31 rfl (sh_731 hS0) hr6 ?_
  refine r_aload_n (x := some 731) (pc2 := 13) d_Re_makeCondition_12 rfl rfl ?_
  refine q_getR (x := some 736) (pc2 := 16) d_Re_makeCondition_13 rfl k_Re_34 rfl (sh_731 hS0) hr7 ?_
  refine r_aload_n (x := some 731) (pc2 := 17) d_Re_makeCondition_16 rfl rfl ?_
  refine q_getR (x := some 737) (pc2 := 20) d_Re_makeCondition_17 rfl k_Re_37 rfl (sh_731 hS0) hr8 ?_
  refine r_aload_n (x := some 731) (pc2 := 21) d_Re_makeCondition_20 rfl rfl ?_
  refine q_getI (x := nI m) (pc2 := 24) d_Re_makeCondition_21 rfl k_Re_40 (by decide) (sh_731 hS0) h9 ?_
  refine r_calli (M2 := mi_Co_init) (pc2 := 27) (as := [.ref 734, .ref 735, .ref 736, .ref 737, .int (nI m)]) (rest := [.ref N]) d_Re_makeCondition_24 rfl k_Re_78 cm_Co_init ci_Co_init rfl rfl rfl rfl (Nat.le_of_ble_eq_true rfl) (c_Co_init (c := N) hS0 hal0.2.2.2.2 hN hm hm2 hN0 (by omega)) (d2 := d - 1) (ac1 := 0) (az1 := 0) (by omega) (by omega) (by omega) (fun r2 h2 hq2 => ?_)
  obtain ⟨rfl, K, R1, L1, S1, rfl, hfb, hcn, hsn⟩ := hq2
  refine Run.ret (some (rv (some N))) d_Re_makeCondition_27 ⟨_, rfl⟩ ?_
  exact ⟨rfl, _, _, _, _, rfl, ⟨fun a j q => (hfb.1 a j q).trans (hal0.1 a j (by omega)), fun a j q => (hfb.2.1 a j q).trans (hal0.2.1 a j (by omega)), fun a j q => (hfb.2.2.1 a j q).trans (hal0.2.2.1 a j (by omega)), fun a q => (hfb.2.2.2 a q).trans (hal0.2.2.2.1 a (by omega))⟩, ⟨hcn.1, hcn.2.1, fun j hj => by rw [← hal0.1 734 j (by omega), ← hal0.1 735 j (by omega), ← hal0.1 736 j (by omega), ← hal0.1 737 j (by omega)]; exact hcn.2.2 j hj⟩, hsn⟩
