/-! THE CONSTRUCTORS, first: those without loops -/
def RuB (c : Nat) (K : Nat → Nat → Int32) (R : Nat → Nat → Option Nat) (S : Nat → Nat × Nat) : Prop := (S c = (6, 0) ∧ S (c + 1) = (12, 3)) ∧ (R c 2 = some (c + 1)) ∧ (True)
theorem c_Ru_init {d : Nat} {I : Nat → Nat → Int32} {R : Nat → Nat → Option Nat} {L : Nat → Nat → Int64} {sh : Nat → Nat × Nat} {c : Nat} (hc0 : sh c = (6, 0)) (hN0 : ShN sh (c + 1)) (hd : 8 ≤ d) : Mt mi_Ru_init d 1 3 [.ref c] (I, R, L, sh, c + 1) (fun x h2 => x = none ∧ ∃ K R1 L1 S1, h2 = (K, R1, L1, S1, c + 2) ∧ FrB c I R L sh K R1 L1 S1 ∧ ShN S1 (c + 2) ∧ RuB c K R1 S1) := by
  refine Mt.of pn_Ru (Nat.le_of_ble_eq_true rfl) ?_
  show Run mi_Ru_init d 1 3 0 [(0, .ref c)] [] (I, R, L, sh, c + 1) _
  refine r_aload_n (x := some c) (pc2 := 1) d_Ru_init_0 rfl rfl ?_
  refine r_objInit (pc2 := 4) d_Ru_init_1 rfl k_Ru_3 oi_inst oi_code (by omega) (Nat.le_of_ble_eq_true rfl) ?_
  refine r_aload_n (x := some c) (pc2 := 5) d_Ru_init_4 rfl rfl ?_
  refine r_null (pc2 := 6) d_Ru_init_5 rfl ?_
  refine q_putR (x := none) (pc2 := 9) d_Ru_init_6 rfl k_Ru_9 rfl hc0 (by first | exact Or.inl rfl | exact Or.inr ⟨rfl, rfl⟩) (fun R1 hR1 => ?_)
  refine r_aload_n (x := some c) (pc2 := 10) d_Ru_init_9 rfl rfl ?_
  refine r_iconst (v := (-1)) (pc2 := 11) d_Ru_init_10 rfl (by decide) ?_
  refine q_putI (pc2 := 14) d_Ru_init_11 rfl k_Ru_15 (Or.inl rfl) hc0 (by first | exact Or.inl rfl | exact Or.inr ⟨rfl, rfl⟩) (fun I2 hI2 => ?_)
  refine r_aload_n (x := some c) (pc2 := 15) d_Ru_init_14 rfl rfl ?_
  refine r_iconst (v := nI 3) (pc2 := 16) d_Ru_init_15 rfl (by decide) ?_
  refine r_newarray (at_ := .int) (len := 3) (pc2 := 18) (ac1 := 0) (az1 := 0) d_Ru_init_16 rfl (by decide) aw_int (nI_toInt (by decide)) (by omega) (by omega) (by omega) ?_
  obtain ⟨K3, R3, L3, S3, hal3, hzr3, e1_, e2_, e3_, e4_⟩ : ∃ Ka Ra La Sa, AL 12 3 (c + 1) I2 R1 L sh Ka Ra La Sa ∧ ZR (c + 1) Ka Ra ∧ Ka = z1 I2 (c + 1) 0 ∧ Ra = z1 R1 (c + 1) none ∧ La = z1 L (c + 1) 0 ∧ Sa = s1 sh (c + 1) (12, 3) := ⟨_, _, _, _, al_z, zr_z, rfl, rfl, rfl, rfl⟩
  show Run _ _ _ _ _ _ _ (z1 I2 (c + 1) 0, z1 R1 (c + 1) none, z1 L (c + 1) 0, s1 sh (c + 1) (12, 3), c + 2) _
  rw [← e1_, ← e2_, ← e3_, ← e4_]
  clear e1_ e2_ e3_ e4_
  have hN3 := hal3.n hN0
  have hc3 : S3 c = _ := (hal3.2.2.2.1 c (by omega)).trans hc0
  refine q_putR (x := some (c + 1)) (pc2 := 21) d_Ru_init_18 rfl k_Ru_19 rfl hc3 (by first | exact Or.inl rfl | exact Or.inr ⟨rfl, rfl⟩) (fun R4 hR4 => ?_)
  refine Run.ret none d_Ru_init_21 rfl ?_
  exact ⟨rfl, _, _, _, _, rfl, ⟨fun a j q => (hal3.1 _ _ (by omega)).trans (rd_ne hI2 (by omega)), fun a j q => (rd_ne hR4 (by omega)).trans ((hal3.2.1 _ _ (by omega)).trans (rd_ne hR1 (by omega))), fun a j q => hal3.2.2.1 _ _ (by omega), fun a q => hal3.2.2.2.1 _ (by omega)⟩, hN3, ⟨(hal3.2.2.2.1 _ (by omega)).trans (hc0), hal3.2.2.2.2⟩, rd_eq hR4, trivial⟩
def PeB (c : Nat) (K : Nat → Nat → Int32) (R : Nat → Nat → Option Nat) (S : Nat → Nat × Nat) : Prop := (S c = (4, 0) ∧ S (c + 1) = (12, 24) ∧ S (c + 2) = (12, 24)) ∧ (R c 0 = some (c + 1) ∧ R c 1 = some (c + 2)) ∧ (K c 2 = nI 0)
theorem c_Pe_init {d : Nat} {I : Nat → Nat → Int32} {R : Nat → Nat → Option Nat} {L : Nat → Nat → Int64} {sh : Nat → Nat × Nat} {c : Nat} (hc0 : sh c = (4, 0)) (hN0 : ShN sh (c + 1)) (hd : 8 ≤ d) : Mt mi_Pe_init d 2 48 [.ref c] (I, R, L, sh, c + 1) (fun x h2 => x = none ∧ ∃ K R1 L1 S1, h2 = (K, R1, L1, S1, c + 3) ∧ FrB c I R L sh K R1 L1 S1 ∧ ShN S1 (c + 3) ∧ PeB c K R1 S1) := by
  refine Mt.of pn_Pe (Nat.le_of_ble_eq_true rfl) ?_
  show Run mi_Pe_init d 2 48 0 [(0, .ref c)] [] (I, R, L, sh, c + 1) _
  refine r_aload_n (x := some c) (pc2 := 1) d_Pe_init_0 rfl rfl ?_
  refine r_objInit (pc2 := 4) d_Pe_init_1 rfl k_Pe_3 oi_inst oi_code (by omega) (Nat.le_of_ble_eq_true rfl) ?_
  refine r_aload_n (x := some c) (pc2 := 5) d_Pe_init_4 rfl rfl ?_
  refine r_bipush (v := nI 24) (pc2 := 7) d_Pe_init_5 rfl (by decide) ?_
  refine r_newarray (at_ := .int) (len := 24) (pc2 := 9) (ac1 := 1) (az1 := 24) d_Pe_init_7 rfl (by decide) aw_int (nI_toInt (by decide)) (by omega) (by omega) (by omega) ?_
  obtain ⟨K1, R1, L1, S1, hal1, hzr1, e1_, e2_, e3_, e4_⟩ : ∃ Ka Ra La Sa, AL 12 24 (c + 1) I R L sh Ka Ra La Sa ∧ ZR (c + 1) Ka Ra ∧ Ka = z1 I (c + 1) 0 ∧ Ra = z1 R (c + 1) none ∧ La = z1 L (c + 1) 0 ∧ Sa = s1 sh (c + 1) (12, 24) := ⟨_, _, _, _, al_z, zr_z, rfl, rfl, rfl, rfl⟩
  show Run _ _ _ _ _ _ _ (z1 I (c + 1) 0, z1 R (c + 1) none, z1 L (c + 1) 0, s1 sh (c + 1) (12, 24), c + 2) _
  rw [← e1_, ← e2_, ← e3_, ← e4_]
  clear e1_ e2_ e3_ e4_
  have hN1 := hal1.n hN0
  have hc1 : S1 c = _ := (hal1.2.2.2.1 c (by omega)).trans hc0
  refine q_putR (x := some (c + 1)) (pc2 := 12) d_Pe_init_9 rfl k_Pe_9 rfl hc1 (by first | exact Or.inl rfl | exact Or.inr ⟨rfl, rfl⟩) (fun R2 hR2 => ?_)
  refine r_aload_n (x := some c) (pc2 := 13) d_Pe_init_12 rfl rfl ?_
  refine r_bipush (v := nI 24) (pc2 := 15) d_Pe_init_13 rfl (by decide) ?_
  refine r_newarray (at_ := .int) (len := 24) (pc2 := 17) (ac1 := 0) (az1 := 0) d_Pe_init_15 rfl (by decide) aw_int (nI_toInt (by decide)) (by omega) (by omega) (by omega) ?_
  obtain ⟨K3, R3, L3, S3, hal3, hzr3, e1_, e2_, e3_, e4_⟩ : ∃ Ka Ra La Sa, AL 12 24 (c + 2) K1 R2 L1 S1 Ka Ra La Sa ∧ ZR (c + 2) Ka Ra ∧ Ka = z1 K1 (c + 2) 0 ∧ Ra = z1 R2 (c + 2) none ∧ La = z1 L1 (c + 2) 0 ∧ Sa = s1 S1 (c + 2) (12, 24) := ⟨_, _, _, _, al_z, zr_z, rfl, rfl, rfl, rfl⟩
  show Run _ _ _ _ _ _ _ (z1 K1 (c + 2) 0, z1 R2 (c + 2) none, z1 L1 (c + 2) 0, s1 S1 (c + 2) (12, 24), c + 3) _
  rw [← e1_, ← e2_, ← e3_, ← e4_]
  clear e1_ e2_ e3_ e4_
  have hN3 := hal3.n hN1
  have hc3 : S3 c = _ := (hal3.2.2.2.1 c (by omega)).trans hc1
  refine q_putR (x := some (c + 2)) (pc2 := 20) d_Pe_init_17 rfl k_Pe_15 rfl hc3 (by first | exact Or.inl rfl | exact Or.inr ⟨rfl, rfl⟩) (fun R4 hR4 => ?_)
  refine r_aload_n (x := some c) (pc2 := 21) d_Pe_init_20 rfl rfl ?_
  refine r_iconst (v := nI 0) (pc2 := 22) d_Pe_init_21 rfl (by decide) ?_
  refine q_putI (pc2 := 25) d_Pe_init_22 rfl k_Pe_18 (Or.inl rfl) hc3 (by first | exact Or.inl rfl | exact Or.inr ⟨rfl, rfl⟩) (fun I5 hI5 => ?_)
  refine Run.ret none d_Pe_init_25 rfl ?_
  exact ⟨rfl, _, _, _, _, rfl, ⟨fun a j q => (rd_ne hI5 (by omega)).trans ((hal3.1 _ _ (by omega)).trans (hal1.1 _ _ (by omega))), fun a j q => (rd_ne hR4 (by omega)).trans ((hal3.2.1 _ _ (by omega)).trans ((rd_ne hR2 (by omega)).trans (hal1.2.1 _ _ (by omega)))), fun a j q => (hal3.2.2.1 _ _ (by omega)).trans (hal1.2.2.1 _ _ (by omega)), fun a q => (hal3.2.2.2.1 _ (by omega)).trans (hal1.2.2.2.1 _ (by omega))⟩, hN3, ⟨(hal3.2.2.2.1 _ (by omega)).trans ((hal1.2.2.2.1 _ (by omega)).trans (hc0)), (hal3.2.2.2.1 _ (by omega)).trans (hal1.2.2.2.2), hal3.2.2.2.2⟩, ⟨(rd_nk hR4 (by decide)).trans ((hal3.2.1 _ _ (by omega)).trans (rd_eq hR2)), rd_eq hR4⟩, rd_eq hI5⟩
def StB (c : Nat) (K : Nat → Nat → Int32) (R : Nat → Nat → Option Nat) (S : Nat → Nat × Nat) : Prop := (S c = (9, 0) ∧ S (c + 1) = (12, 24) ∧ S (c + 2) = (12, 24) ∧ S (c + 3) = (12, 24) ∧ S (c + 4) = (12, 24) ∧ S (c + 5) = (12, 24)) ∧ (R c 0 = some (c + 1) ∧ R c 1 = some (c + 2) ∧ R c 2 = some (c + 3) ∧ R c 3 = some (c + 4) ∧ R c 4 = some (c + 5)) ∧ (K c 5 = nI 0)
theorem c_St_init {d : Nat} {I : Nat → Nat → Int32} {R : Nat → Nat → Option Nat} {L : Nat → Nat → Int64} {sh : Nat → Nat × Nat} {c : Nat} (hc0 : sh c = (9, 0)) (hN0 : ShN sh (c + 1)) (hd : 8 ≤ d) : Mt mi_St_init d 5 120 [.ref c] (I, R, L, sh, c + 1) (fun x h2 => x = none ∧ ∃ K R1 L1 S1, h2 = (K, R1, L1, S1, c + 6) ∧ FrB c I R L sh K R1 L1 S1 ∧ ShN S1 (c + 6) ∧ StB c K R1 S1) := by
  refine Mt.of pn_St (Nat.le_of_ble_eq_true rfl) ?_
  show Run mi_St_init d 5 120 0 [(0, .ref c)] [] (I, R, L, sh, c + 1) _
  refine r_aload_n (x := some c) (pc2 := 1) d_St_init_0 rfl rfl ?_
  refine r_objInit (pc2 := 4) d_St_init_1 rfl k_St_3 oi_inst oi_code (by omega) (Nat.le_of_ble_eq_true rfl) ?_
  refine r_aload_n (x := some c) (pc2 := 5) d_St_init_4 rfl rfl ?_
  refine r_bipush (v := nI 24) (pc2 := 7) d_St_init_5 rfl (by decide) ?_
  refine r_newarray (at_ := .int) (len := 24) (pc2 := 9) (ac1 := 4) (az1 := 96) d_St_init_7 rfl (by decide) aw_int (nI_toInt (by decide)) (by omega) (by omega) (by omega) ?_
  obtain ⟨K1, R1, L1, S1, hal1, hzr1, e1_, e2_, e3_, e4_⟩ : ∃ Ka Ra La Sa, AL 12 24 (c + 1) I R L sh Ka Ra La Sa ∧ ZR (c + 1) Ka Ra ∧ Ka = z1 I (c + 1) 0 ∧ Ra = z1 R (c + 1) none ∧ La = z1 L (c + 1) 0 ∧ Sa = s1 sh (c + 1) (12, 24) := ⟨_, _, _, _, al_z, zr_z, rfl, rfl, rfl, rfl⟩
  show Run _ _ _ _ _ _ _ (z1 I (c + 1) 0, z1 R (c + 1) none, z1 L (c + 1) 0, s1 sh (c + 1) (12, 24), c + 2) _
  rw [← e1_, ← e2_, ← e3_, ← e4_]
  clear e1_ e2_ e3_ e4_
  have hN1 := hal1.n hN0
  have hc1 : S1 c = _ := (hal1.2.2.2.1 c (by omega)).trans hc0
  refine q_putR (x := some (c + 1)) (pc2 := 12) d_St_init_9 rfl k_St_9 rfl hc1 (by first | exact Or.inl rfl | exact Or.inr ⟨rfl, rfl⟩) (fun R2 hR2 => ?_)
  refine r_aload_n (x := some c) (pc2 := 13) d_St_init_12 rfl rfl ?_
  refine r_bipush (v := nI 24) (pc2 := 15) d_St_init_13 rfl (by decide) ?_
  refine r_newarray (at_ := .int) (len := 24) (pc2 := 17) (ac1 := 3) (az1 := 72) d_St_init_15 rfl (by decide) aw_int (nI_toInt (by decide)) (by omega) (by omega) (by omega) ?_
  obtain ⟨K3, R3, L3, S3, hal3, hzr3, e1_, e2_, e3_, e4_⟩ : ∃ Ka Ra La Sa, AL 12 24 (c + 2) K1 R2 L1 S1 Ka Ra La Sa ∧ ZR (c + 2) Ka Ra ∧ Ka = z1 K1 (c + 2) 0 ∧ Ra = z1 R2 (c + 2) none ∧ La = z1 L1 (c + 2) 0 ∧ Sa = s1 S1 (c + 2) (12, 24) := ⟨_, _, _, _, al_z, zr_z, rfl, rfl, rfl, rfl⟩
  show Run _ _ _ _ _ _ _ (z1 K1 (c + 2) 0, z1 R2 (c + 2) none, z1 L1 (c + 2) 0, s1 S1 (c + 2) (12, 24), c + 3) _
  rw [← e1_, ← e2_, ← e3_, ← e4_]
  clear e1_ e2_ e3_ e4_
  have hN3 := hal3.n hN1
  have hc3 : S3 c = _ := (hal3.2.2.2.1 c (by omega)).trans hc1
  refine q_putR (x := some (c + 2)) (pc2 := 20) d_St_init_17 rfl k_St_15 rfl hc3 (by first | exact Or.inl rfl | exact Or.inr ⟨rfl, rfl⟩) (fun R4 hR4 => ?_)
  refine r_aload_n (x := some c) (pc2 := 21) d_St_init_20 rfl rfl ?_
  refine r_bipush (v := nI 24) (pc2 := 23) d_St_init_21 rfl (by decide) ?_
  refine r_newarray (at_ := .int) (len := 24) (pc2 := 25) (ac1 := 2) (az1 := 48) d_St_init_23 rfl (by decide) aw_int (nI_toInt (by decide)) (by omega) (by omega) (by omega) ?_
  obtain ⟨K5, R5, L5, S5, hal5, hzr5, e1_, e2_, e3_, e4_⟩ : ∃ Ka Ra La Sa, AL 12 24 (c + 3) K3 R4 L3 S3 Ka Ra La Sa ∧ ZR (c + 3) Ka Ra ∧ Ka = z1 K3 (c + 3) 0 ∧ Ra = z1 R4 (c + 3) none ∧ La = z1 L3 (c + 3) 0 ∧ Sa = s1 S3 (c + 3) (12, 24) := ⟨_, _, _, _, al_z, zr_z, rfl, rfl, rfl, rfl⟩
  show Run _ _ _ _ _ _ _ (z1 K3 (c + 3) 0, z1 R4 (c + 3) none, z1 L3 (c + 3) 0, s1 S3 (c + 3) (12, 24), c + 4) _
  rw [← e1_, ← e2_, ← e3_, ← e4_]
  clear e1_ e2_ e3_ e4_
  have hN5 := hal5.n hN3
  have hc5 : S5 c = _ := (hal5.2.2.2.1 c (by omega)).trans hc3
  refine q_putR (x := some (c + 3)) (pc2 := 28) d_St_init_25 rfl k_St_18 rfl hc5 (by first | exact Or.inl rfl | exact Or.inr ⟨rfl, rfl⟩) (fun R6 hR6 => ?_)
  refine r_aload_n (x := some c) (pc2 := 29) d_St_init_28 rfl rfl ?_
  refine r_bipush (v := nI 24) (pc2 := 31) d_St_init_29 rfl (by decide) ?_
  refine r_newarray (at_ := .int) (len := 24) (pc2 := 33) (ac1 := 1) (az1 := 24) d_St_init_31 rfl (by decide) aw_int (nI_toInt (by decide)) (by omega) (by omega) (by omega) ?_
  obtain ⟨K7, R7, L7, S7, hal7, hzr7, e1_, e2_, e3_, e4_⟩ : ∃ Ka Ra La Sa, AL 12 24 (c + 4) K5 R6 L5 S5 Ka Ra La Sa ∧ ZR (c + 4) Ka Ra ∧ Ka = z1 K5 (c + 4) 0 ∧ Ra = z1 R6 (c + 4) none ∧ La = z1 L5 (c + 4) 0 ∧ Sa = s1 S5 (c + 4) (12, 24) := ⟨_, _, _, _, al_z, zr_z, rfl, rfl, rfl, rfl⟩
  show Run _ _ _ _ _ _ _ (z1 K5 (c + 4) 0, z1 R6 (c + 4) none, z1 L5 (c + 4) 0, s1 S5 (c + 4) (12, 24), c + 5) _
  rw [← e1_, ← e2_, ← e3_, ← e4_]
  clear e1_ e2_ e3_ e4_
  have hN7 := hal7.n hN5
  have hc7 : S7 c = _ := (hal7.2.2.2.1 c (by omega)).trans hc5
  refine q_putR (x := some (c + 4)) (pc2 := 36) d_St_init_33 rfl k_St_21 rfl hc7 (by first | exact Or.inl rfl | exact Or.inr ⟨rfl, rfl⟩) (fun R8 hR8 => ?_)
  refine r_aload_n (x := some c) (pc2 := 37) d_St_init_36 rfl rfl ?_
  refine r_bipush (v := nI 24) (pc2 := 39) d_St_init_37 rfl (by decide) ?_
  refine r_newarray (at_ := .int) (len := 24) (pc2 := 41) (ac1 := 0) (az1 := 0) d_St_init_39 rfl (by decide) aw_int (nI_toInt (by decide)) (by omega) (by omega) (by omega) ?_
  obtain ⟨K9, R9, L9, S9, hal9, hzr9, e1_, e2_, e3_, e4_⟩ : ∃ Ka Ra La Sa, AL 12 24 (c + 5) K7 R8 L7 S7 Ka Ra La Sa ∧ ZR (c + 5) Ka Ra ∧ Ka = z1 K7 (c + 5) 0 ∧ Ra = z1 R8 (c + 5) none ∧ La = z1 L7 (c + 5) 0 ∧ Sa = s1 S7 (c + 5) (12, 24) := ⟨_, _, _, _, al_z, zr_z, rfl, rfl, rfl, rfl⟩
  show Run _ _ _ _ _ _ _ (z1 K7 (c + 5) 0, z1 R8 (c + 5) none, z1 L7 (c + 5) 0, s1 S7 (c + 5) (12, 24), c + 6) _
  rw [← e1_, ← e2_, ← e3_, ← e4_]
  clear e1_ e2_ e3_ e4_
  have hN9 := hal9.n hN7
  have hc9 : S9 c = _ := (hal9.2.2.2.1 c (by omega)).trans hc7
  refine q_putR (x := some (c + 5)) (pc2 := 44) d_St_init_41 rfl k_St_24 rfl hc9 (by first | exact Or.inl rfl | exact Or.inr ⟨rfl, rfl⟩) (fun R10 hR10 => ?_)
  refine r_aload_n (x := some c) (pc2 := 45) d_St_init_44 rfl rfl ?_
  refine r_iconst (v := nI 0) (pc2 := 46) d_St_init_45 rfl (by decide) ?_
  refine q_putI (pc2 := 49) d_St_init_46 rfl k_St_27 (Or.inl rfl) hc9 (by first | exact Or.inl rfl | exact Or.inr ⟨rfl, rfl⟩) (fun I11 hI11 => ?_)
  refine Run.ret none d_St_init_49 rfl ?_
  exact ⟨rfl, _, _, _, _, rfl, ⟨fun a j q => (rd_ne hI11 (by omega)).trans ((hal9.1 _ _ (by omega)).trans ((hal7.1 _ _ (by omega)).trans ((hal5.1 _ _ (by omega)).trans ((hal3.1 _ _ (by omega)).trans (hal1.1 _ _ (by omega)))))), fun a j q => (rd_ne hR10 (by omega)).trans ((hal9.2.1 _ _ (by omega)).trans ((rd_ne hR8 (by omega)).trans ((hal7.2.1 _ _ (by omega)).trans ((rd_ne hR6 (by omega)).trans ((hal5.2.1 _ _ (by omega)).trans ((rd_ne hR4 (by omega)).trans ((hal3.2.1 _ _ (by omega)).trans ((rd_ne hR2 (by omega)).trans (hal1.2.1 _ _ (by omega)))))))))), fun a j q => (hal9.2.2.1 _ _ (by omega)).trans ((hal7.2.2.1 _ _ (by omega)).trans ((hal5.2.2.1 _ _ (by omega)).trans ((hal3.2.2.1 _ _ (by omega)).trans (hal1.2.2.1 _ _ (by omega))))), fun a q => (hal9.2.2.2.1 _ (by omega)).trans ((hal7.2.2.2.1 _ (by omega)).trans ((hal5.2.2.2.1 _ (by omega)).trans ((hal3.2.2.2.1 _ (by omega)).trans (hal1.2.2.2.1 _ (by omega)))))⟩, hN9, ⟨(hal9.2.2.2.1 _ (by omega)).trans ((hal7.2.2.2.1 _ (by omega)).trans ((hal5.2.2.2.1 _ (by omega)).trans ((hal3.2.2.2.1 _ (by omega)).trans ((hal1.2.2.2.1 _ (by omega)).trans (hc0))))), (hal9.2.2.2.1 _ (by omega)).trans ((hal7.2.2.2.1 _ (by omega)).trans ((hal5.2.2.2.1 _ (by omega)).trans ((hal3.2.2.2.1 _ (by omega)).trans (hal1.2.2.2.2)))), (hal9.2.2.2.1 _ (by omega)).trans ((hal7.2.2.2.1 _ (by omega)).trans ((hal5.2.2.2.1 _ (by omega)).trans (hal3.2.2.2.2))), (hal9.2.2.2.1 _ (by omega)).trans ((hal7.2.2.2.1 _ (by omega)).trans (hal5.2.2.2.2)), (hal9.2.2.2.1 _ (by omega)).trans (hal7.2.2.2.2), hal9.2.2.2.2⟩, ⟨(rd_nk hR10 (by decide)).trans ((hal9.2.1 _ _ (by omega)).trans ((rd_nk hR8 (by decide)).trans ((hal7.2.1 _ _ (by omega)).trans ((rd_nk hR6 (by decide)).trans ((hal5.2.1 _ _ (by omega)).trans ((rd_nk hR4 (by decide)).trans ((hal3.2.1 _ _ (by omega)).trans (rd_eq hR2)))))))), (rd_nk hR10 (by decide)).trans ((hal9.2.1 _ _ (by omega)).trans ((rd_nk hR8 (by decide)).trans ((hal7.2.1 _ _ (by omega)).trans ((rd_nk hR6 (by decide)).trans ((hal5.2.1 _ _ (by omega)).trans (rd_eq hR4)))))), (rd_nk hR10 (by decide)).trans ((hal9.2.1 _ _ (by omega)).trans ((rd_nk hR8 (by decide)).trans ((hal7.2.1 _ _ (by omega)).trans (rd_eq hR6)))), (rd_nk hR10 (by decide)).trans ((hal9.2.1 _ _ (by omega)).trans (rd_eq hR8)), rd_eq hR10⟩, rd_eq hI11⟩
def AnB (c : Nat) (K : Nat → Nat → Int32) (R : Nat → Nat → Option Nat) (S : Nat → Nat × Nat) : Prop := (S c = (0, 0) ∧ S (c + 1) = (12, 12) ∧ S (c + 2) = (12, 12) ∧ S (c + 3) = (12, 12) ∧ S (c + 4) = (12, 12)) ∧ (R c 0 = some (c + 1) ∧ R c 1 = some (c + 2) ∧ R c 2 = some (c + 3) ∧ R c 3 = some (c + 4)) ∧ (True)
theorem c_An_init {d : Nat} {I : Nat → Nat → Int32} {R : Nat → Nat → Option Nat} {L : Nat → Nat → Int64} {sh : Nat → Nat × Nat} {c : Nat} (hc0 : sh c = (0, 0)) (hN0 : ShN sh (c + 1)) (hd : 8 ≤ d) : Mt mi_An_init d 4 48 [.ref c] (I, R, L, sh, c + 1) (fun x h2 => x = none ∧ ∃ K R1 L1 S1, h2 = (K, R1, L1, S1, c + 5) ∧ FrB c I R L sh K R1 L1 S1 ∧ ShN S1 (c + 5) ∧ AnB c K R1 S1) := by
  refine Mt.of pn_An (Nat.le_of_ble_eq_true rfl) ?_
  show Run mi_An_init d 4 48 0 [(0, .ref c)] [] (I, R, L, sh, c + 1) _
  refine r_aload_n (x := some c) (pc2 := 1) d_An_init_0 rfl rfl ?_
  refine r_objInit (pc2 := 4) d_An_init_1 rfl k_An_3 oi_inst oi_code (by omega) (Nat.le_of_ble_eq_true rfl) ?_
  refine r_aload_n (x := some c) (pc2 := 5) d_An_init_4 rfl rfl ?_
  refine r_bipush (v := nI 12) (pc2 := 7) d_An_init_5 rfl (by decide) ?_
  refine r_newarray (at_ := .int) (len := 12) (pc2 := 9) (ac1 := 3) (az1 := 36) d_An_init_7 rfl (by decide) aw_int (nI_toInt (by decide)) (by omega) (by omega) (by omega) ?_
  obtain ⟨K1, R1, L1, S1, hal1, hzr1, e1_, e2_, e3_, e4_⟩ : ∃ Ka Ra La Sa, AL 12 12 (c + 1) I R L sh Ka Ra La Sa ∧ ZR (c + 1) Ka Ra ∧ Ka = z1 I (c + 1) 0 ∧ Ra = z1 R (c + 1) none ∧ La = z1 L (c + 1) 0 ∧ Sa = s1 sh (c + 1) (12, 12) := ⟨_, _, _, _, al_z, zr_z, rfl, rfl, rfl, rfl⟩
  show Run _ _ _ _ _ _ _ (z1 I (c + 1) 0, z1 R (c + 1) none, z1 L (c + 1) 0, s1 sh (c + 1) (12, 12), c + 2) _
  rw [← e1_, ← e2_, ← e3_, ← e4_]
  clear e1_ e2_ e3_ e4_
  have hN1 := hal1.n hN0
  have hc1 : S1 c = _ := (hal1.2.2.2.1 c (by omega)).trans hc0
  refine q_putR (x := some (c + 1)) (pc2 := 12) d_An_init_9 rfl k_An_9 rfl hc1 (by first | exact Or.inl rfl | exact Or.inr ⟨rfl, rfl⟩) (fun R2 hR2 => ?_)
  refine r_aload_n (x := some c) (pc2 := 13) d_An_init_12 rfl rfl ?_
  refine r_bipush (v := nI 12) (pc2 := 15) d_An_init_13 rfl (by decide) ?_
  refine r_newarray (at_ := .int) (len := 12) (pc2 := 17) (ac1 := 2) (az1 := 24) d_An_init_15 rfl (by decide) aw_int (nI_toInt (by decide)) (by omega) (by omega) (by omega) ?_
  obtain ⟨K3, R3, L3, S3, hal3, hzr3, e1_, e2_, e3_, e4_⟩ : ∃ Ka Ra La Sa, AL 12 12 (c + 2) K1 R2 L1 S1 Ka Ra La Sa ∧ ZR (c + 2) Ka Ra ∧ Ka = z1 K1 (c + 2) 0 ∧ Ra = z1 R2 (c + 2) none ∧ La = z1 L1 (c + 2) 0 ∧ Sa = s1 S1 (c + 2) (12, 12) := ⟨_, _, _, _, al_z, zr_z, rfl, rfl, rfl, rfl⟩
  show Run _ _ _ _ _ _ _ (z1 K1 (c + 2) 0, z1 R2 (c + 2) none, z1 L1 (c + 2) 0, s1 S1 (c + 2) (12, 12), c + 3) _
  rw [← e1_, ← e2_, ← e3_, ← e4_]
  clear e1_ e2_ e3_ e4_
  have hN3 := hal3.n hN1
  have hc3 : S3 c = _ := (hal3.2.2.2.1 c (by omega)).trans hc1
  refine q_putR (x := some (c + 2)) (pc2 := 20) d_An_init_17 rfl k_An_15 rfl hc3 (by first | exact Or.inl rfl | exact Or.inr ⟨rfl, rfl⟩) (fun R4 hR4 => ?_)
  refine r_aload_n (x := some c) (pc2 := 21) d_An_init_20 rfl rfl ?_
  refine r_bipush (v := nI 12) (pc2 := 23) d_An_init_21 rfl (by decide) ?_
  refine r_newarray (at_ := .int) (len := 12) (pc2 := 25) (ac1 := 1) (az1 := 12) d_An_init_23 rfl (by decide) aw_int (nI_toInt (by decide)) (by omega) (by omega) (by omega) ?_
  obtain ⟨K5, R5, L5, S5, hal5, hzr5, e1_, e2_, e3_, e4_⟩ : ∃ Ka Ra La Sa, AL 12 12 (c + 3) K3 R4 L3 S3 Ka Ra La Sa ∧ ZR (c + 3) Ka Ra ∧ Ka = z1 K3 (c + 3) 0 ∧ Ra = z1 R4 (c + 3) none ∧ La = z1 L3 (c + 3) 0 ∧ Sa = s1 S3 (c + 3) (12, 12) := ⟨_, _, _, _, al_z, zr_z, rfl, rfl, rfl, rfl⟩
  show Run _ _ _ _ _ _ _ (z1 K3 (c + 3) 0, z1 R4 (c + 3) none, z1 L3 (c + 3) 0, s1 S3 (c + 3) (12, 12), c + 4) _
  rw [← e1_, ← e2_, ← e3_, ← e4_]
  clear e1_ e2_ e3_ e4_
  have hN5 := hal5.n hN3
  have hc5 : S5 c = _ := (hal5.2.2.2.1 c (by omega)).trans hc3
  refine q_putR (x := some (c + 3)) (pc2 := 28) d_An_init_25 rfl k_An_18 rfl hc5 (by first | exact Or.inl rfl | exact Or.inr ⟨rfl, rfl⟩) (fun R6 hR6 => ?_)
  refine r_aload_n (x := some c) (pc2 := 29) d_An_init_28 rfl rfl ?_
  refine r_bipush (v := nI 12) (pc2 := 31) d_An_init_29 rfl (by decide) ?_
  refine r_newarray (at_ := .int) (len := 12) (pc2 := 33) (ac1 := 0) (az1 := 0) d_An_init_31 rfl (by decide) aw_int (nI_toInt (by decide)) (by omega) (by omega) (by omega) ?_
  obtain ⟨K7, R7, L7, S7, hal7, hzr7, e1_, e2_, e3_, e4_⟩ : ∃ Ka Ra La Sa, AL 12 12 (c + 4) K5 R6 L5 S5 Ka Ra La Sa ∧ ZR (c + 4) Ka Ra ∧ Ka = z1 K5 (c + 4) 0 ∧ Ra = z1 R6 (c + 4) none ∧ La = z1 L5 (c + 4) 0 ∧ Sa = s1 S5 (c + 4) (12, 12) := ⟨_, _, _, _, al_z, zr_z, rfl, rfl, rfl, rfl⟩
  show Run _ _ _ _ _ _ _ (z1 K5 (c + 4) 0, z1 R6 (c + 4) none, z1 L5 (c + 4) 0, s1 S5 (c + 4) (12, 12), c + 5) _
  rw [← e1_, ← e2_, ← e3_, ← e4_]
  clear e1_ e2_ e3_ e4_
  have hN7 := hal7.n hN5
  have hc7 : S7 c = _ := (hal7.2.2.2.1 c (by omega)).trans hc5
  refine q_putR (x := some (c + 4)) (pc2 := 36) d_An_init_33 rfl k_An_21 rfl hc7 (by first | exact Or.inl rfl | exact Or.inr ⟨rfl, rfl⟩) (fun R8 hR8 => ?_)
  refine r_aload_n (x := some c) (pc2 := 37) d_An_init_36 rfl rfl ?_
  refine r_iconst (v := nI 0) (pc2 := 38) d_An_init_37 rfl (by decide) ?_
  refine q_putI (pc2 := 41) d_An_init_38 rfl k_An_24 (Or.inl rfl) hc7 (by first | exact Or.inl rfl | exact Or.inr ⟨rfl, rfl⟩) (fun I9 hI9 => ?_)
  refine r_aload_n (x := some c) (pc2 := 42) d_An_init_41 rfl rfl ?_
  refine r_iconst (v := nI 0) (pc2 := 43) d_An_init_42 rfl (by decide) ?_
  refine q_putI (pc2 := 46) d_An_init_43 rfl k_An_28 (Or.inl rfl) hc7 (by first | exact Or.inl rfl | exact Or.inr ⟨rfl, rfl⟩) (fun I10 hI10 => ?_)
  refine Run.ret none d_An_init_46 rfl ?_
  exact ⟨rfl, _, _, _, _, rfl, ⟨fun a j q => (rd_ne hI10 (by omega)).trans ((rd_ne hI9 (by omega)).trans ((hal7.1 _ _ (by omega)).trans ((hal5.1 _ _ (by omega)).trans ((hal3.1 _ _ (by omega)).trans (hal1.1 _ _ (by omega)))))), fun a j q => (rd_ne hR8 (by omega)).trans ((hal7.2.1 _ _ (by omega)).trans ((rd_ne hR6 (by omega)).trans ((hal5.2.1 _ _ (by omega)).trans ((rd_ne hR4 (by omega)).trans ((hal3.2.1 _ _ (by omega)).trans ((rd_ne hR2 (by omega)).trans (hal1.2.1 _ _ (by omega)))))))), fun a j q => (hal7.2.2.1 _ _ (by omega)).trans ((hal5.2.2.1 _ _ (by omega)).trans ((hal3.2.2.1 _ _ (by omega)).trans (hal1.2.2.1 _ _ (by omega)))), fun a q => (hal7.2.2.2.1 _ (by omega)).trans ((hal5.2.2.2.1 _ (by omega)).trans ((hal3.2.2.2.1 _ (by omega)).trans (hal1.2.2.2.1 _ (by omega))))⟩, hN7, ⟨(hal7.2.2.2.1 _ (by omega)).trans ((hal5.2.2.2.1 _ (by omega)).trans ((hal3.2.2.2.1 _ (by omega)).trans ((hal1.2.2.2.1 _ (by omega)).trans (hc0)))), (hal7.2.2.2.1 _ (by omega)).trans ((hal5.2.2.2.1 _ (by omega)).trans ((hal3.2.2.2.1 _ (by omega)).trans (hal1.2.2.2.2))), (hal7.2.2.2.1 _ (by omega)).trans ((hal5.2.2.2.1 _ (by omega)).trans (hal3.2.2.2.2)), (hal7.2.2.2.1 _ (by omega)).trans (hal5.2.2.2.2), hal7.2.2.2.2⟩, ⟨(rd_nk hR8 (by decide)).trans ((hal7.2.1 _ _ (by omega)).trans ((rd_nk hR6 (by decide)).trans ((hal5.2.1 _ _ (by omega)).trans ((rd_nk hR4 (by decide)).trans ((hal3.2.1 _ _ (by omega)).trans (rd_eq hR2)))))), (rd_nk hR8 (by decide)).trans ((hal7.2.1 _ _ (by omega)).trans ((rd_nk hR6 (by decide)).trans ((hal5.2.1 _ _ (by omega)).trans (rd_eq hR4)))), (rd_nk hR8 (by decide)).trans ((hal7.2.1 _ _ (by omega)).trans (rd_eq hR6)), rd_eq hR8⟩, trivial⟩
def ReB (c : Nat) (K : Nat → Nat → Int32) (R : Nat → Nat → Option Nat) (S : Nat → Nat × Nat) : Prop := (S c = (5, 0) ∧ S (c + 1) = (12, 0) ∧ S (c + 2) = (12, 3) ∧ S (c + 3) = (12, 250) ∧ S (c + 4) = (12, 250) ∧ S (c + 5) = (12, 250) ∧ S (c + 6) = (12, 250) ∧ S (c + 7) = (12, 250) ∧ S (c + 8) = (12, 250)) ∧ (R c 4 = some (c + 2) ∧ R c 5 = some (c + 3) ∧ R c 6 = some (c + 4) ∧ R c 7 = some (c + 5) ∧ R c 8 = some (c + 6) ∧ R c 10 = some (c + 7) ∧ R c 12 = some (c + 8)) ∧ (True)
theorem c_Re_init {d : Nat} {I : Nat → Nat → Int32} {R : Nat → Nat → Option Nat} {L : Nat → Nat → Int64} {sh : Nat → Nat × Nat} {c : Nat} (hc0 : sh c = (5, 0)) (hN0 : ShN sh (c + 1)) (hd : 8 ≤ d) : Mt mi_Re_init d 8 1503 [.ref c] (I, R, L, sh, c + 1) (fun x h2 => x = none ∧ ∃ K R1 L1 S1, h2 = (K, R1, L1, S1, c + 9) ∧ FrB c I R L sh K R1 L1 S1 ∧ ShN S1 (c + 9) ∧ ReB c K R1 S1) := by
  refine Mt.of pn_Re (Nat.le_of_ble_eq_true rfl) ?_
  show Run mi_Re_init d 8 1503 0 [(0, .ref c)] [] (I, R, L, sh, c + 1) _
  refine r_aload_n (x := some c) (pc2 := 1) d_Re_init_0 rfl rfl ?_
  refine r_objInit (pc2 := 4) d_Re_init_1 rfl k_Re_3 oi_inst oi_code (by omega) (Nat.le_of_ble_eq_true rfl) ?_
  refine r_aload_n (x := some c) (pc2 := 5) d_Re_init_4 rfl rfl ?_
  refine r_iconst (v := nI 0) (pc2 := 6) d_Re_init_5 rfl (by decide) ?_
  refine r_newarray (at_ := .int) (len := 0) (pc2 := 8) (ac1 := 7) (az1 := 1503) d_Re_init_6 rfl (by decide) aw_int (nI_toInt (by decide)) (by omega) (by omega) (by omega) ?_
  obtain ⟨K1, R1, L1, S1, hal1, hzr1, e1_, e2_, e3_, e4_⟩ : ∃ Ka Ra La Sa, AL 12 0 (c + 1) I R L sh Ka Ra La Sa ∧ ZR (c + 1) Ka Ra ∧ Ka = z1 I (c + 1) 0 ∧ Ra = z1 R (c + 1) none ∧ La = z1 L (c + 1) 0 ∧ Sa = s1 sh (c + 1) (12, 0) := ⟨_, _, _, _, al_z, zr_z, rfl, rfl, rfl, rfl⟩
  show Run _ _ _ _ _ _ _ (z1 I (c + 1) 0, z1 R (c + 1) none, z1 L (c + 1) 0, s1 sh (c + 1) (12, 0), c + 2) _
  rw [← e1_, ← e2_, ← e3_, ← e4_]
  clear e1_ e2_ e3_ e4_
  have hN1 := hal1.n hN0
  have hc1 : S1 c = _ := (hal1.2.2.2.1 c (by omega)).trans hc0
  refine q_putR (x := some (c + 1)) (pc2 := 11) d_Re_init_8 rfl k_Re_9 rfl hc1 (by first | exact Or.inl rfl | exact Or.inr ⟨rfl, rfl⟩) (fun R2 hR2 => ?_)
  refine r_aload_n (x := some c) (pc2 := 12) d_Re_init_11 rfl rfl ?_
  refine r_iconst (v := nI 0) (pc2 := 13) d_Re_init_12 rfl (by decide) ?_
  refine q_putI (pc2 := 16) d_Re_init_13 rfl k_Re_15 (Or.inl rfl) hc1 (by first | exact Or.inl rfl | exact Or.inr ⟨rfl, rfl⟩) (fun I3 hI3 => ?_)
  refine r_aload_n (x := some c) (pc2 := 17) d_Re_init_16 rfl rfl ?_
  refine r_iconst (v := nI 0) (pc2 := 18) d_Re_init_17 rfl (by decide) ?_
  refine q_putI (pc2 := 21) d_Re_init_18 rfl k_Re_19 (Or.inl rfl) hc1 (by first | exact Or.inl rfl | exact Or.inr ⟨rfl, rfl⟩) (fun I4 hI4 => ?_)
  refine r_aload_n (x := some c) (pc2 := 22) d_Re_init_21 rfl rfl ?_
  refine r_iconst (v := (-1)) (pc2 := 23) d_Re_init_22 rfl (by decide) ?_
  refine q_putI (pc2 := 26) d_Re_init_23 rfl k_Re_22 (Or.inl rfl) hc1 (by first | exact Or.inl rfl | exact Or.inr ⟨rfl, rfl⟩) (fun I5 hI5 => ?_)
  refine r_aload_n (x := some c) (pc2 := 27) d_Re_init_26 rfl rfl ?_
  refine r_iconst (v := nI 3) (pc2 := 28) d_Re_init_27 rfl (by decide) ?_
  refine r_newarray (at_ := .int) (len := 3) (pc2 := 30) (ac1 := 6) (az1 := 1500) d_Re_init_28 rfl (by decide) aw_int (nI_toInt (by decide)) (by omega) (by omega) (by omega) ?_
  obtain ⟨K6, R6, L6, S6, hal6, hzr6, e1_, e2_, e3_, e4_⟩ : ∃ Ka Ra La Sa, AL 12 3 (c + 2) I5 R2 L1 S1 Ka Ra La Sa ∧ ZR (c + 2) Ka Ra ∧ Ka = z1 I5 (c + 2) 0 ∧ Ra = z1 R2 (c + 2) none ∧ La = z1 L1 (c + 2) 0 ∧ Sa = s1 S1 (c + 2) (12, 3) := ⟨_, _, _, _, al_z, zr_z, rfl, rfl, rfl, rfl⟩
  show Run _ _ _ _ _ _ _ (z1 I5 (c + 2) 0, z1 R2 (c + 2) none, z1 L1 (c + 2) 0, s1 S1 (c + 2) (12, 3), c + 3) _
  rw [← e1_, ← e2_, ← e3_, ← e4_]
  clear e1_ e2_ e3_ e4_
  have hN6 := hal6.n hN1
  have hc6 : S6 c = _ := (hal6.2.2.2.1 c (by omega)).trans hc1
  refine q_putR (x := some (c + 2)) (pc2 := 33) d_Re_init_30 rfl k_Re_25 rfl hc6 (by first | exact Or.inl rfl | exact Or.inr ⟨rfl, rfl⟩) (fun R7 hR7 => ?_)
  refine r_aload_n (x := some c) (pc2 := 34) d_Re_init_33 rfl rfl ?_
  refine r_sipush (v := nI 250) (pc2 := 37) d_Re_init_34 rfl (by decide) ?_
  refine r_newarray (at_ := .int) (len := 250) (pc2 := 39) (ac1 := 5) (az1 := 1250) d_Re_init_37 rfl (by decide) aw_int (nI_toInt (by decide)) (by omega) (by omega) (by omega) ?_
  obtain ⟨K8, R8, L8, S8, hal8, hzr8, e1_, e2_, e3_, e4_⟩ : ∃ Ka Ra La Sa, AL 12 250 (c + 3) K6 R7 L6 S6 Ka Ra La Sa ∧ ZR (c + 3) Ka Ra ∧ Ka = z1 K6 (c + 3) 0 ∧ Ra = z1 R7 (c + 3) none ∧ La = z1 L6 (c + 3) 0 ∧ Sa = s1 S6 (c + 3) (12, 250) := ⟨_, _, _, _, al_z, zr_z, rfl, rfl, rfl, rfl⟩
  show Run _ _ _ _ _ _ _ (z1 K6 (c + 3) 0, z1 R7 (c + 3) none, z1 L6 (c + 3) 0, s1 S6 (c + 3) (12, 250), c + 4) _
  rw [← e1_, ← e2_, ← e3_, ← e4_]
  clear e1_ e2_ e3_ e4_
  have hN8 := hal8.n hN6
  have hc8 : S8 c = _ := (hal8.2.2.2.1 c (by omega)).trans hc6
  refine q_putR (x := some (c + 3)) (pc2 := 42) d_Re_init_39 rfl k_Re_28 rfl hc8 (by first | exact Or.inl rfl | exact Or.inr ⟨rfl, rfl⟩) (fun R9 hR9 => ?_)
  refine r_aload_n (x := some c) (pc2 := 43) d_Re_init_42 rfl rfl ?_
  refine r_sipush (v := nI 250) (pc2 := 46) d_Re_init_43 rfl (by decide) ?_
  refine r_newarray (at_ := .int) (len := 250) (pc2 := 48) (ac1 := 4) (az1 := 1000) d_Re_init_46 rfl (by decide) aw_int (nI_toInt (by decide)) (by omega) (by omega) (by omega) ?_
  obtain ⟨K10, R10, L10, S10, hal10, hzr10, e1_, e2_, e3_, e4_⟩ : ∃ Ka Ra La Sa, AL 12 250 (c + 4) K8 R9 L8 S8 Ka Ra La Sa ∧ ZR (c + 4) Ka Ra ∧ Ka = z1 K8 (c + 4) 0 ∧ Ra = z1 R9 (c + 4) none ∧ La = z1 L8 (c + 4) 0 ∧ Sa = s1 S8 (c + 4) (12, 250) := ⟨_, _, _, _, al_z, zr_z, rfl, rfl, rfl, rfl⟩
  show Run _ _ _ _ _ _ _ (z1 K8 (c + 4) 0, z1 R9 (c + 4) none, z1 L8 (c + 4) 0, s1 S8 (c + 4) (12, 250), c + 5) _
  rw [← e1_, ← e2_, ← e3_, ← e4_]
  clear e1_ e2_ e3_ e4_
  have hN10 := hal10.n hN8
  have hc10 : S10 c = _ := (hal10.2.2.2.1 c (by omega)).trans hc8
  refine q_putR (x := some (c + 4)) (pc2 := 51) d_Re_init_48 rfl k_Re_31 rfl hc10 (by first | exact Or.inl rfl | exact Or.inr ⟨rfl, rfl⟩) (fun R11 hR11 => ?_)
  refine r_aload_n (x := some c) (pc2 := 52) d_Re_init_51 rfl rfl ?_
  refine r_sipush (v := nI 250) (pc2 := 55) d_Re_init_52 rfl (by decide) ?_
  refine r_newarray (at_ := .int) (len := 250) (pc2 := 57) (ac1 := 3) (az1 := 750) d_Re_init_55 rfl (by decide) aw_int (nI_toInt (by decide)) (by omega) (by omega) (by omega) ?_
  obtain ⟨K12, R12, L12, S12, hal12, hzr12, e1_, e2_, e3_, e4_⟩ : ∃ Ka Ra La Sa, AL 12 250 (c + 5) K10 R11 L10 S10 Ka Ra La Sa ∧ ZR (c + 5) Ka Ra ∧ Ka = z1 K10 (c + 5) 0 ∧ Ra = z1 R11 (c + 5) none ∧ La = z1 L10 (c + 5) 0 ∧ Sa = s1 S10 (c + 5) (12, 250) := ⟨_, _, _, _, al_z, zr_z, rfl, rfl, rfl, rfl⟩
  show Run _ _ _ _ _ _ _ (z1 K10 (c + 5) 0, z1 R11 (c + 5) none, z1 L10 (c + 5) 0, s1 S10 (c + 5) (12, 250), c + 6) _
  rw [← e1_, ← e2_, ← e3_, ← e4_]
  clear e1_ e2_ e3_ e4_
  have hN12 := hal12.n hN10
  have hc12 : S12 c = _ := (hal12.2.2.2.1 c (by omega)).trans hc10
  refine q_putR (x := some (c + 5)) (pc2 := 60) d_Re_init_57 rfl k_Re_34 rfl hc12 (by first | exact Or.inl rfl | exact Or.inr ⟨rfl, rfl⟩) (fun R13 hR13 => ?_)
  refine r_aload_n (x := some c) (pc2 := 61) d_Re_init_60 rfl rfl ?_
  refine r_sipush (v := nI 250) (pc2 := 64) d_Re_init_61 rfl (by decide) ?_
  refine r_newarray (at_ := .int) (len := 250) (pc2 := 66) (ac1 := 2) (az1 := 500) d_Re_init_64 rfl (by decide) aw_int (nI_toInt (by decide)) (by omega) (by omega) (by omega) ?_
  obtain ⟨K14, R14, L14, S14, hal14, hzr14, e1_, e2_, e3_, e4_⟩ : ∃ Ka Ra La Sa, AL 12 250 (c + 6) K12 R13 L12 S12 Ka Ra La Sa ∧ ZR (c + 6) Ka Ra ∧ Ka = z1 K12 (c + 6) 0 ∧ Ra = z1 R13 (c + 6) none ∧ La = z1 L12 (c + 6) 0 ∧ Sa = s1 S12 (c + 6) (12, 250) := ⟨_, _, _, _, al_z, zr_z, rfl, rfl, rfl, rfl⟩
  show Run _ _ _ _ _ _ _ (z1 K12 (c + 6) 0, z1 R13 (c + 6) none, z1 L12 (c + 6) 0, s1 S12 (c + 6) (12, 250), c + 7) _
  rw [← e1_, ← e2_, ← e3_, ← e4_]
  clear e1_ e2_ e3_ e4_
  have hN14 := hal14.n hN12
  have hc14 : S14 c = _ := (hal14.2.2.2.1 c (by omega)).trans hc12
  refine q_putR (x := some (c + 6)) (pc2 := 69) d_Re_init_66 rfl k_Re_37 rfl hc14 (by first | exact Or.inl rfl | exact Or.inr ⟨rfl, rfl⟩) (fun R15 hR15 => ?_)
  refine r_aload_n (x := some c) (pc2 := 70) d_Re_init_69 rfl rfl ?_
  refine r_iconst (v := nI 0) (pc2 := 71) d_Re_init_70 rfl (by decide) ?_
  refine q_putI (pc2 := 74) d_Re_init_71 rfl k_Re_40 (Or.inl rfl) hc14 (by first | exact Or.inl rfl | exact Or.inr ⟨rfl, rfl⟩) (fun I16 hI16 => ?_)
  refine r_aload_n (x := some c) (pc2 := 75) d_Re_init_74 rfl rfl ?_
  refine r_sipush (v := nI 250) (pc2 := 78) d_Re_init_75 rfl (by decide) ?_
  refine r_newarray (at_ := .int) (len := 250) (pc2 := 80) (ac1 := 1) (az1 := 250) d_Re_init_78 rfl (by decide) aw_int (nI_toInt (by decide)) (by omega) (by omega) (by omega) ?_
  obtain ⟨K17, R17, L17, S17, hal17, hzr17, e1_, e2_, e3_, e4_⟩ : ∃ Ka Ra La Sa, AL 12 250 (c + 7) I16 R15 L14 S14 Ka Ra La Sa ∧ ZR (c + 7) Ka Ra ∧ Ka = z1 I16 (c + 7) 0 ∧ Ra = z1 R15 (c + 7) none ∧ La = z1 L14 (c + 7) 0 ∧ Sa = s1 S14 (c + 7) (12, 250) := ⟨_, _, _, _, al_z, zr_z, rfl, rfl, rfl, rfl⟩
  show Run _ _ _ _ _ _ _ (z1 I16 (c + 7) 0, z1 R15 (c + 7) none, z1 L14 (c + 7) 0, s1 S14 (c + 7) (12, 250), c + 8) _
  rw [← e1_, ← e2_, ← e3_, ← e4_]
  clear e1_ e2_ e3_ e4_
  have hN17 := hal17.n hN14
  have hc17 : S17 c = _ := (hal17.2.2.2.1 c (by omega)).trans hc14
  refine q_putR (x := some (c + 7)) (pc2 := 83) d_Re_init_80 rfl k_Re_43 rfl hc17 (by first | exact Or.inl rfl | exact Or.inr ⟨rfl, rfl⟩) (fun R18 hR18 => ?_)
  refine r_aload_n (x := some c) (pc2 := 84) d_Re_init_83 rfl rfl ?_
  refine r_iconst (v := nI 0) (pc2 := 85) d_Re_init_84 rfl (by decide) ?_
  refine q_putI (pc2 := 88) d_Re_init_85 rfl k_Re_46 (Or.inl rfl) hc17 (by first | exact Or.inl rfl | exact Or.inr ⟨rfl, rfl⟩) (fun I19 hI19 => ?_)
  refine r_aload_n (x := some c) (pc2 := 89) d_Re_init_88 rfl rfl ?_
  refine r_sipush (v := nI 250) (pc2 := 92) d_Re_init_89 rfl (by decide) ?_
  refine r_newarray (at_ := .int) (len := 250) (pc2 := 94) (ac1 := 0) (az1 := 0) d_Re_init_92 rfl (by decide) aw_int (nI_toInt (by decide)) (by omega) (by omega) (by omega) ?_
  obtain ⟨K20, R20, L20, S20, hal20, hzr20, e1_, e2_, e3_, e4_⟩ : ∃ Ka Ra La Sa, AL 12 250 (c + 8) I19 R18 L17 S17 Ka Ra La Sa ∧ ZR (c + 8) Ka Ra ∧ Ka = z1 I19 (c + 8) 0 ∧ Ra = z1 R18 (c + 8) none ∧ La = z1 L17 (c + 8) 0 ∧ Sa = s1 S17 (c + 8) (12, 250) := ⟨_, _, _, _, al_z, zr_z, rfl, rfl, rfl, rfl⟩
  show Run _ _ _ _ _ _ _ (z1 I19 (c + 8) 0, z1 R18 (c + 8) none, z1 L17 (c + 8) 0, s1 S17 (c + 8) (12, 250), c + 9) _
  rw [← e1_, ← e2_, ← e3_, ← e4_]
  clear e1_ e2_ e3_ e4_
  have hN20 := hal20.n hN17
  have hc20 : S20 c = _ := (hal20.2.2.2.1 c (by omega)).trans hc17
  refine q_putR (x := some (c + 8)) (pc2 := 97) d_Re_init_94 rfl k_Re_49 rfl hc20 (by first | exact Or.inl rfl | exact Or.inr ⟨rfl, rfl⟩) (fun R21 hR21 => ?_)
  refine r_aload_n (x := some c) (pc2 := 98) d_Re_init_97 rfl rfl ?_
  refine r_iconst (v := nI 0) (pc2 := 99) d_Re_init_98 rfl (by decide) ?_
  refine q_putI (pc2 := 102) d_Re_init_99 rfl k_Re_52 (Or.inl rfl) hc20 (by first | exact Or.inl rfl | exact Or.inr ⟨rfl, rfl⟩) (fun I22 hI22 => ?_)
  refine r_aload_n (x := some c) (pc2 := 103) d_Re_init_102 rfl rfl ?_
  refine r_iconst (v := nI 0) (pc2 := 104) d_Re_init_103 rfl (by decide) ?_
  refine q_putI (pc2 := 107) d_Re_init_104 rfl k_Re_55 (Or.inl rfl) hc20 (by first | exact Or.inl rfl | exact Or.inr ⟨rfl, rfl⟩) (fun I23 hI23 => ?_)
  refine r_aload_n (x := some c) (pc2 := 108) d_Re_init_107 rfl rfl ?_
  refine r_iconst (v := nI 1) (pc2 := 109) d_Re_init_108 rfl (by decide) ?_
  refine q_putI (pc2 := 112) d_Re_init_109 rfl k_Re_58 (Or.inr ⟨rfl, by decide⟩) hc20 (by first | exact Or.inl rfl | exact Or.inr ⟨rfl, rfl⟩) (fun I24 hI24 => ?_)
  refine Run.ret none d_Re_init_112 rfl ?_
  exact ⟨rfl, _, _, _, _, rfl, ⟨fun a j q => (rd_ne hI24 (by omega)).trans ((rd_ne hI23 (by omega)).trans ((rd_ne hI22 (by omega)).trans ((hal20.1 _ _ (by omega)).trans ((rd_ne hI19 (by omega)).trans ((hal17.1 _ _ (by omega)).trans ((rd_ne hI16 (by omega)).trans ((hal14.1 _ _ (by omega)).trans ((hal12.1 _ _ (by omega)).trans ((hal10.1 _ _ (by omega)).trans ((hal8.1 _ _ (by omega)).trans ((hal6.1 _ _ (by omega)).trans ((rd_ne hI5 (by omega)).trans ((rd_ne hI4 (by omega)).trans ((rd_ne hI3 (by omega)).trans (hal1.1 _ _ (by omega)))))))))))))))), fun a j q => (rd_ne hR21 (by omega)).trans ((hal20.2.1 _ _ (by omega)).trans ((rd_ne hR18 (by omega)).trans ((hal17.2.1 _ _ (by omega)).trans ((rd_ne hR15 (by omega)).trans ((hal14.2.1 _ _ (by omega)).trans ((rd_ne hR13 (by omega)).trans ((hal12.2.1 _ _ (by omega)).trans ((rd_ne hR11 (by omega)).trans ((hal10.2.1 _ _ (by omega)).trans ((rd_ne hR9 (by omega)).trans ((hal8.2.1 _ _ (by omega)).trans ((rd_ne hR7 (by omega)).trans ((hal6.2.1 _ _ (by omega)).trans ((rd_ne hR2 (by omega)).trans (hal1.2.1 _ _ (by omega)))))))))))))))), fun a j q => (hal20.2.2.1 _ _ (by omega)).trans ((hal17.2.2.1 _ _ (by omega)).trans ((hal14.2.2.1 _ _ (by omega)).trans ((hal12.2.2.1 _ _ (by omega)).trans ((hal10.2.2.1 _ _ (by omega)).trans ((hal8.2.2.1 _ _ (by omega)).trans ((hal6.2.2.1 _ _ (by omega)).trans (hal1.2.2.1 _ _ (by omega)))))))), fun a q => (hal20.2.2.2.1 _ (by omega)).trans ((hal17.2.2.2.1 _ (by omega)).trans ((hal14.2.2.2.1 _ (by omega)).trans ((hal12.2.2.2.1 _ (by omega)).trans ((hal10.2.2.2.1 _ (by omega)).trans ((hal8.2.2.2.1 _ (by omega)).trans ((hal6.2.2.2.1 _ (by omega)).trans (hal1.2.2.2.1 _ (by omega))))))))⟩, hN20, ⟨(hal20.2.2.2.1 _ (by omega)).trans ((hal17.2.2.2.1 _ (by omega)).trans ((hal14.2.2.2.1 _ (by omega)).trans ((hal12.2.2.2.1 _ (by omega)).trans ((hal10.2.2.2.1 _ (by omega)).trans ((hal8.2.2.2.1 _ (by omega)).trans ((hal6.2.2.2.1 _ (by omega)).trans ((hal1.2.2.2.1 _ (by omega)).trans (hc0)))))))), (hal20.2.2.2.1 _ (by omega)).trans ((hal17.2.2.2.1 _ (by omega)).trans ((hal14.2.2.2.1 _ (by omega)).trans ((hal12.2.2.2.1 _ (by omega)).trans ((hal10.2.2.2.1 _ (by omega)).trans ((hal8.2.2.2.1 _ (by omega)).trans ((hal6.2.2.2.1 _ (by omega)).trans (hal1.2.2.2.2))))))), (hal20.2.2.2.1 _ (by omega)).trans ((hal17.2.2.2.1 _ (by omega)).trans ((hal14.2.2.2.1 _ (by omega)).trans ((hal12.2.2.2.1 _ (by omega)).trans ((hal10.2.2.2.1 _ (by omega)).trans ((hal8.2.2.2.1 _ (by omega)).trans (hal6.2.2.2.2)))))), (hal20.2.2.2.1 _ (by omega)).trans ((hal17.2.2.2.1 _ (by omega)).trans ((hal14.2.2.2.1 _ (by omega)).trans ((hal12.2.2.2.1 _ (by omega)).trans ((hal10.2.2.2.1 _ (by omega)).trans (hal8.2.2.2.2))))), (hal20.2.2.2.1 _ (by omega)).trans ((hal17.2.2.2.1 _ (by omega)).trans ((hal14.2.2.2.1 _ (by omega)).trans ((hal12.2.2.2.1 _ (by omega)).trans (hal10.2.2.2.2)))), (hal20.2.2.2.1 _ (by omega)).trans ((hal17.2.2.2.1 _ (by omega)).trans ((hal14.2.2.2.1 _ (by omega)).trans (hal12.2.2.2.2))), (hal20.2.2.2.1 _ (by omega)).trans ((hal17.2.2.2.1 _ (by omega)).trans (hal14.2.2.2.2)), (hal20.2.2.2.1 _ (by omega)).trans (hal17.2.2.2.2), hal20.2.2.2.2⟩, ⟨(rd_nk hR21 (by decide)).trans ((hal20.2.1 _ _ (by omega)).trans ((rd_nk hR18 (by decide)).trans ((hal17.2.1 _ _ (by omega)).trans ((rd_nk hR15 (by decide)).trans ((hal14.2.1 _ _ (by omega)).trans ((rd_nk hR13 (by decide)).trans ((hal12.2.1 _ _ (by omega)).trans ((rd_nk hR11 (by decide)).trans ((hal10.2.1 _ _ (by omega)).trans ((rd_nk hR9 (by decide)).trans ((hal8.2.1 _ _ (by omega)).trans (rd_eq hR7)))))))))))), (rd_nk hR21 (by decide)).trans ((hal20.2.1 _ _ (by omega)).trans ((rd_nk hR18 (by decide)).trans ((hal17.2.1 _ _ (by omega)).trans ((rd_nk hR15 (by decide)).trans ((hal14.2.1 _ _ (by omega)).trans ((rd_nk hR13 (by decide)).trans ((hal12.2.1 _ _ (by omega)).trans ((rd_nk hR11 (by decide)).trans ((hal10.2.1 _ _ (by omega)).trans (rd_eq hR9)))))))))), (rd_nk hR21 (by decide)).trans ((hal20.2.1 _ _ (by omega)).trans ((rd_nk hR18 (by decide)).trans ((hal17.2.1 _ _ (by omega)).trans ((rd_nk hR15 (by decide)).trans ((hal14.2.1 _ _ (by omega)).trans ((rd_nk hR13 (by decide)).trans ((hal12.2.1 _ _ (by omega)).trans (rd_eq hR11)))))))), (rd_nk hR21 (by decide)).trans ((hal20.2.1 _ _ (by omega)).trans ((rd_nk hR18 (by decide)).trans ((hal17.2.1 _ _ (by omega)).trans ((rd_nk hR15 (by decide)).trans ((hal14.2.1 _ _ (by omega)).trans (rd_eq hR13)))))), (rd_nk hR21 (by decide)).trans ((hal20.2.1 _ _ (by omega)).trans ((rd_nk hR18 (by decide)).trans ((hal17.2.1 _ _ (by omega)).trans (rd_eq hR15)))), (rd_nk hR21 (by decide)).trans ((hal20.2.1 _ _ (by omega)).trans (rd_eq hR18)), rd_eq hR21⟩, trivial⟩
def SpB (c : Nat) (K : Nat → Nat → Int32) (R : Nat → Nat → Option Nat) (S : Nat → Nat × Nat) : Prop := (S c = (8, 0) ∧ S (c + 1) = (12, 250) ∧ S (c + 2) = (12, 250) ∧ S (c + 3) = (12, 270)) ∧ (R c 0 = some (c + 1) ∧ R c 1 = some (c + 2) ∧ R c 2 = some (c + 3)) ∧ (True)
theorem c_Sp_init {d : Nat} {I : Nat → Nat → Int32} {R : Nat → Nat → Option Nat} {L : Nat → Nat → Int64} {sh : Nat → Nat × Nat} {c : Nat} (hc0 : sh c = (8, 0)) (hN0 : ShN sh (c + 1)) (hd : 8 ≤ d) : Mt mi_Sp_init d 3 770 [.ref c] (I, R, L, sh, c + 1) (fun x h2 => x = none ∧ ∃ K R1 L1 S1, h2 = (K, R1, L1, S1, c + 4) ∧ FrB c I R L sh K R1 L1 S1 ∧ ShN S1 (c + 4) ∧ SpB c K R1 S1) := by
  refine Mt.of pn_Sp (Nat.le_of_ble_eq_true rfl) ?_
  show Run mi_Sp_init d 3 770 0 [(0, .ref c)] [] (I, R, L, sh, c + 1) _
  refine r_aload_n (x := some c) (pc2 := 1) d_Sp_init_0 rfl rfl ?_
  refine r_objInit (pc2 := 4) d_Sp_init_1 rfl k_Sp_3 oi_inst oi_code (by omega) (Nat.le_of_ble_eq_true rfl) ?_
  refine r_aload_n (x := some c) (pc2 := 5) d_Sp_init_4 rfl rfl ?_
  refine r_sipush (v := nI 250) (pc2 := 8) d_Sp_init_5 rfl (by decide) ?_
  refine r_newarray (at_ := .int) (len := 250) (pc2 := 10) (ac1 := 2) (az1 := 520) d_Sp_init_8 rfl (by decide) aw_int (nI_toInt (by decide)) (by omega) (by omega) (by omega) ?_
  obtain ⟨K1, R1, L1, S1, hal1, hzr1, e1_, e2_, e3_, e4_⟩ : ∃ Ka Ra La Sa, AL 12 250 (c + 1) I R L sh Ka Ra La Sa ∧ ZR (c + 1) Ka Ra ∧ Ka = z1 I (c + 1) 0 ∧ Ra = z1 R (c + 1) none ∧ La = z1 L (c + 1) 0 ∧ Sa = s1 sh (c + 1) (12, 250) := ⟨_, _, _, _, al_z, zr_z, rfl, rfl, rfl, rfl⟩
  show Run _ _ _ _ _ _ _ (z1 I (c + 1) 0, z1 R (c + 1) none, z1 L (c + 1) 0, s1 sh (c + 1) (12, 250), c + 2) _
  rw [← e1_, ← e2_, ← e3_, ← e4_]
  clear e1_ e2_ e3_ e4_
  have hN1 := hal1.n hN0
  have hc1 : S1 c = _ := (hal1.2.2.2.1 c (by omega)).trans hc0
  refine q_putR (x := some (c + 1)) (pc2 := 13) d_Sp_init_10 rfl k_Sp_9 rfl hc1 (by first | exact Or.inl rfl | exact Or.inr ⟨rfl, rfl⟩) (fun R2 hR2 => ?_)
  refine r_aload_n (x := some c) (pc2 := 14) d_Sp_init_13 rfl rfl ?_
  refine r_sipush (v := nI 250) (pc2 := 17) d_Sp_init_14 rfl (by decide) ?_
  refine r_newarray (at_ := .int) (len := 250) (pc2 := 19) (ac1 := 1) (az1 := 270) d_Sp_init_17 rfl (by decide) aw_int (nI_toInt (by decide)) (by omega) (by omega) (by omega) ?_
  obtain ⟨K3, R3, L3, S3, hal3, hzr3, e1_, e2_, e3_, e4_⟩ : ∃ Ka Ra La Sa, AL 12 250 (c + 2) K1 R2 L1 S1 Ka Ra La Sa ∧ ZR (c + 2) Ka Ra ∧ Ka = z1 K1 (c + 2) 0 ∧ Ra = z1 R2 (c + 2) none ∧ La = z1 L1 (c + 2) 0 ∧ Sa = s1 S1 (c + 2) (12, 250) := ⟨_, _, _, _, al_z, zr_z, rfl, rfl, rfl, rfl⟩
  show Run _ _ _ _ _ _ _ (z1 K1 (c + 2) 0, z1 R2 (c + 2) none, z1 L1 (c + 2) 0, s1 S1 (c + 2) (12, 250), c + 3) _
  rw [← e1_, ← e2_, ← e3_, ← e4_]
  clear e1_ e2_ e3_ e4_
  have hN3 := hal3.n hN1
  have hc3 : S3 c = _ := (hal3.2.2.2.1 c (by omega)).trans hc1
  refine q_putR (x := some (c + 2)) (pc2 := 22) d_Sp_init_19 rfl k_Sp_15 rfl hc3 (by first | exact Or.inl rfl | exact Or.inr ⟨rfl, rfl⟩) (fun R4 hR4 => ?_)
  refine r_aload_n (x := some c) (pc2 := 23) d_Sp_init_22 rfl rfl ?_
  refine r_sipush (v := nI 270) (pc2 := 26) d_Sp_init_23 rfl (by decide) ?_
  refine r_newarray (at_ := .int) (len := 270) (pc2 := 28) (ac1 := 0) (az1 := 0) d_Sp_init_26 rfl (by decide) aw_int (nI_toInt (by decide)) (by omega) (by omega) (by omega) ?_
  obtain ⟨K5, R5, L5, S5, hal5, hzr5, e1_, e2_, e3_, e4_⟩ : ∃ Ka Ra La Sa, AL 12 270 (c + 3) K3 R4 L3 S3 Ka Ra La Sa ∧ ZR (c + 3) Ka Ra ∧ Ka = z1 K3 (c + 3) 0 ∧ Ra = z1 R4 (c + 3) none ∧ La = z1 L3 (c + 3) 0 ∧ Sa = s1 S3 (c + 3) (12, 270) := ⟨_, _, _, _, al_z, zr_z, rfl, rfl, rfl, rfl⟩
  show Run _ _ _ _ _ _ _ (z1 K3 (c + 3) 0, z1 R4 (c + 3) none, z1 L3 (c + 3) 0, s1 S3 (c + 3) (12, 270), c + 4) _
  rw [← e1_, ← e2_, ← e3_, ← e4_]
  clear e1_ e2_ e3_ e4_
  have hN5 := hal5.n hN3
  have hc5 : S5 c = _ := (hal5.2.2.2.1 c (by omega)).trans hc3
  refine q_putR (x := some (c + 3)) (pc2 := 31) d_Sp_init_28 rfl k_Sp_18 rfl hc5 (by first | exact Or.inl rfl | exact Or.inr ⟨rfl, rfl⟩) (fun R6 hR6 => ?_)
  refine r_aload_n (x := some c) (pc2 := 32) d_Sp_init_31 rfl rfl ?_
  refine r_iconst (v := nI 0) (pc2 := 33) d_Sp_init_32 rfl (by decide) ?_
  refine q_putI (pc2 := 36) d_Sp_init_33 rfl k_Sp_21 (Or.inl rfl) hc5 (by first | exact Or.inl rfl | exact Or.inr ⟨rfl, rfl⟩) (fun I7 hI7 => ?_)
  refine Run.ret none d_Sp_init_36 rfl ?_
  exact ⟨rfl, _, _, _, _, rfl, ⟨fun a j q => (rd_ne hI7 (by omega)).trans ((hal5.1 _ _ (by omega)).trans ((hal3.1 _ _ (by omega)).trans (hal1.1 _ _ (by omega)))), fun a j q => (rd_ne hR6 (by omega)).trans ((hal5.2.1 _ _ (by omega)).trans ((rd_ne hR4 (by omega)).trans ((hal3.2.1 _ _ (by omega)).trans ((rd_ne hR2 (by omega)).trans (hal1.2.1 _ _ (by omega)))))), fun a j q => (hal5.2.2.1 _ _ (by omega)).trans ((hal3.2.2.1 _ _ (by omega)).trans (hal1.2.2.1 _ _ (by omega))), fun a q => (hal5.2.2.2.1 _ (by omega)).trans ((hal3.2.2.2.1 _ (by omega)).trans (hal1.2.2.2.1 _ (by omega)))⟩, hN5, ⟨(hal5.2.2.2.1 _ (by omega)).trans ((hal3.2.2.2.1 _ (by omega)).trans ((hal1.2.2.2.1 _ (by omega)).trans (hc0))), (hal5.2.2.2.1 _ (by omega)).trans ((hal3.2.2.2.1 _ (by omega)).trans (hal1.2.2.2.2)), (hal5.2.2.2.1 _ (by omega)).trans (hal3.2.2.2.2), hal5.2.2.2.2⟩, ⟨(rd_nk hR6 (by decide)).trans ((hal5.2.1 _ _ (by omega)).trans ((rd_nk hR4 (by decide)).trans ((hal3.2.1 _ _ (by omega)).trans (rd_eq hR2)))), (rd_nk hR6 (by decide)).trans ((hal5.2.1 _ _ (by omega)).trans (rd_eq hR4)), rd_eq hR6⟩, trivial⟩
def ShB (c : Nat) (K : Nat → Nat → Int32) (R : Nat → Nat → Option Nat) (S : Nat → Nat × Nat) : Prop := (S c = (7, 0) ∧ S (c + 1) = (13, 40)) ∧ (R c 2 = some (c + 1) ∧ R c 3 = none) ∧ (K c 0 = -1)
theorem c_Sh_init {d : Nat} {I : Nat → Nat → Int32} {R : Nat → Nat → Option Nat} {L : Nat → Nat → Int64} {sh : Nat → Nat × Nat} {c : Nat} (hc0 : sh c = (7, 0)) (hN0 : ShN sh (c + 1)) (hd : 8 ≤ d) : Mt mi_Sh_init d 1 40 [.ref c] (I, R, L, sh, c + 1) (fun x h2 => x = none ∧ ∃ K R1 L1 S1, h2 = (K, R1, L1, S1, c + 2) ∧ FrB c I R L sh K R1 L1 S1 ∧ ShN S1 (c + 2) ∧ ShB c K R1 S1) := by
  refine Mt.of pn_Sh (Nat.le_of_ble_eq_true rfl) ?_
  show Run mi_Sh_init d 1 40 0 [(0, .ref c)] [] (I, R, L, sh, c + 1) _
  refine r_aload_n (x := some c) (pc2 := 1) d_Sh_init_0 rfl rfl ?_
  refine r_objInit (pc2 := 4) d_Sh_init_1 rfl k_Sh_3 oi_inst oi_code (by omega) (Nat.le_of_ble_eq_true rfl) ?_
  refine r_aload_n (x := some c) (pc2 := 5) d_Sh_init_4 rfl rfl ?_
  refine r_iconst (v := (-1)) (pc2 := 6) d_Sh_init_5 rfl (by decide) ?_
  refine q_putI (pc2 := 9) d_Sh_init_6 rfl k_Sh_9 (Or.inl rfl) hc0 (by first | exact Or.inl rfl | exact Or.inr ⟨rfl, rfl⟩) (fun I1 hI1 => ?_)
  refine r_aload_n (x := some c) (pc2 := 10) d_Sh_init_9 rfl rfl ?_
  refine r_iconst (v := nI 0) (pc2 := 11) d_Sh_init_10 rfl (by decide) ?_
  refine q_putI (pc2 := 14) d_Sh_init_11 rfl k_Sh_15 (Or.inl rfl) hc0 (by first | exact Or.inl rfl | exact Or.inr ⟨rfl, rfl⟩) (fun I2 hI2 => ?_)
  refine r_aload_n (x := some c) (pc2 := 15) d_Sh_init_14 rfl rfl ?_
  refine r_bipush (v := nI 40) (pc2 := 17) d_Sh_init_15 rfl (by decide) ?_
  refine r_newarray (at_ := .long) (len := 40) (pc2 := 19) (ac1 := 0) (az1 := 0) d_Sh_init_17 rfl (by decide) aw_long (nI_toInt (by decide)) (by omega) (by omega) (by omega) ?_
  obtain ⟨K3, R3, L3, S3, hal3, hzr3, e1_, e2_, e3_, e4_⟩ : ∃ Ka Ra La Sa, AL 13 40 (c + 1) I2 R L sh Ka Ra La Sa ∧ ZR (c + 1) Ka Ra ∧ Ka = z1 I2 (c + 1) 0 ∧ Ra = z1 R (c + 1) none ∧ La = z1 L (c + 1) 0 ∧ Sa = s1 sh (c + 1) (13, 40) := ⟨_, _, _, _, al_z, zr_z, rfl, rfl, rfl, rfl⟩
  show Run _ _ _ _ _ _ _ (z1 I2 (c + 1) 0, z1 R (c + 1) none, z1 L (c + 1) 0, s1 sh (c + 1) (13, 40), c + 2) _
  rw [← e1_, ← e2_, ← e3_, ← e4_]
  clear e1_ e2_ e3_ e4_
  have hN3 := hal3.n hN0
  have hc3 : S3 c = _ := (hal3.2.2.2.1 c (by omega)).trans hc0
  refine q_putR (x := some (c + 1)) (pc2 := 22) d_Sh_init_19 rfl k_Sh_18 rfl hc3 (by first | exact Or.inl rfl | exact Or.inr ⟨rfl, rfl⟩) (fun R4 hR4 => ?_)
  refine r_aload_n (x := some c) (pc2 := 23) d_Sh_init_22 rfl rfl ?_
  refine r_null (pc2 := 24) d_Sh_init_23 rfl ?_
  refine q_putR (x := none) (pc2 := 27) d_Sh_init_24 rfl k_Sh_22 rfl hc3 (by first | exact Or.inl rfl | exact Or.inr ⟨rfl, rfl⟩) (fun R5 hR5 => ?_)
  refine r_aload_n (x := some c) (pc2 := 28) d_Sh_init_27 rfl rfl ?_
  refine r_iconst (v := (-1)) (pc2 := 29) d_Sh_init_28 rfl (by decide) ?_
  refine q_putI (pc2 := 32) d_Sh_init_29 rfl k_Sh_26 (Or.inl rfl) hc3 (by first | exact Or.inl rfl | exact Or.inr ⟨rfl, rfl⟩) (fun I6 hI6 => ?_)
  refine Run.ret none d_Sh_init_32 rfl ?_
  exact ⟨rfl, _, _, _, _, rfl, ⟨fun a j q => (rd_ne hI6 (by omega)).trans ((hal3.1 _ _ (by omega)).trans ((rd_ne hI2 (by omega)).trans (rd_ne hI1 (by omega)))), fun a j q => (rd_ne hR5 (by omega)).trans ((rd_ne hR4 (by omega)).trans (hal3.2.1 _ _ (by omega))), fun a j q => hal3.2.2.1 _ _ (by omega), fun a q => hal3.2.2.2.1 _ (by omega)⟩, hN3, ⟨(hal3.2.2.2.1 _ (by omega)).trans (hc0), hal3.2.2.2.2⟩, ⟨(rd_nk hR5 (by decide)).trans (rd_eq hR4), rd_eq hR5⟩, (rd_nk hI6 (by decide)).trans ((hal3.1 _ _ (by omega)).trans ((rd_nk hI2 (by decide)).trans (rd_eq hI1)))⟩
