/-! THE CONSTRUCTORS, second: Feature, Desk -/
theorem l_JA_fillI0 {d : Nat} {J : Nat → Nat → Int32} {R : Nat → Nat → Option Nat} {L : Nat → Nat → Int64} {sh : Nat → Nat × Nat} {N : Nat} {A n : Nat} (hA : sh A = (12, n)) (hn : n ≤ 1000000) {v : Int32} {Q : Option Value → HS → Prop} (hq : ∀ K, K = flR J A n v → Q none (K, R, L, sh, N)) : ∀ (n_ : Nat) (i : Nat) (J1 : Nat → Nat → Int32), n - i = n_ → (J1 = flR J A i v) → (i ≤ n) → Run mi_JA_fillI d 0 0 5 [(0, .ref A), (1, .int v), (2, .int (nI i)), (3, .int (nI n))] [] (J1, R, L, sh, N) Q := by
  intro n_
  induction n_ using Nat.strongRecOn with | ind n_ ih_ => ?_
  intro i J1 hn_ v0_ v1_
  refine r_iload_n (pc2 := 6) d_JA_fillI_5 rfl rfl ?_
  refine r_iload_n (pc2 := 7) d_JA_fillI_6 rfl rfl ?_
  refine q_icmp_ge (tgt := 20) (A := ((i : Nat) : Int)) (B := ((n : Nat) : Int)) (pc2 := 10) d_JA_fillI_7 rfl rfl (nI_toInt (by omega)) (nI_toInt (by omega)) (fun c1 => ?_) (fun c1 => ?_)
  · refine Run.ret none d_JA_fillI_20 rfl ?_
    exact hq _ (by rw [show n = i by omega]; exact v0_)
  · refine r_aload_n (x := some A) (pc2 := 11) d_JA_fillI_10 rfl rfl ?_
    refine r_iload_n (pc2 := 12) d_JA_fillI_11 rfl rfl ?_
    refine r_iload_n (pc2 := 13) d_JA_fillI_12 rfl rfl ?_
    refine q_iastore (q := i) (pc2 := 14) d_JA_fillI_13 rfl hA (nI_toInt (by omega)) (by omega) (fun I2 hI2 => ?_)
    refine q_iinc (b := 1) (pc2 := 17) d_JA_fillI_14 rfl rfl (by decide) (Nat.le_of_ble_eq_true rfl) ?_
    refine r_goto (tgt := 5) d_JA_fillI_17 rfl ?_
    refine Run.sub (l2 := [(0, .ref A), (1, .int v), (2, .int (nI (i + 1))), (3, .int (nI n))]) ⟨rfl, rfl, rfl, rfl, trivial⟩ ?_
    exact ih_ (n - (i + 1)) (by omega) (i + 1) I2 rfl (flR_s (by rw [← v0_]; exact hI2)) (by omega)
theorem c_JA_fillI0 {d : Nat} {J : Nat → Nat → Int32} {R : Nat → Nat → Option Nat} {L : Nat → Nat → Int64} {sh : Nat → Nat × Nat} {N : Nat} {A n : Nat} (hA : sh A = (12, n)) (hn : n ≤ 1000000) {v : Int32} : Mt mi_JA_fillI d 0 0 [.ref A, .int v] (J, R, L, sh, N) (fun r h2 => r = none ∧ ∃ K, h2 = (K, R, L, sh, N) ∧ K = flR J A n v) := by
  refine Mt.ofF (by decide +kernel) (Nat.le_of_ble_eq_true rfl) ?_
  show Run mi_JA_fillI d 0 0 0 [(0, .ref A), (1, .int v)] [] (J, R, L, sh, N) _
  refine r_iconst (v := nI 0) (pc2 := 1) d_JA_fillI_0 rfl (by decide) ?_
  refine r_istore_n (pc2 := 2) d_JA_fillI_1 rfl rfl (Nat.le_of_ble_eq_true rfl) ?_
  refine r_aload_n (x := some A) (pc2 := 3) d_JA_fillI_2 rfl rfl ?_
  refine r_alen (pc2 := 4) d_JA_fillI_3 rfl hA (by decide) (by decide) ?_
  refine r_istore_n (pc2 := 5) d_JA_fillI_4 rfl rfl (Nat.le_of_ble_eq_true rfl) ?_
  refine Run.sub (l2 := [(0, .ref A), (1, .int v), (2, .int (nI 0)), (3, .int (nI n))]) ⟨rfl, rfl, rfl, rfl, trivial⟩ ?_
  exact l_JA_fillI0 hA hn (fun K hK => ⟨rfl, K, rfl, hK⟩) _ 0 _ rfl flR_0.symm (Nat.zero_le _)
/-- a feature as it is made -/
def FeB (c : Nat) (K : Nat → Nat → Int32) (R : Nat → Nat → Option Nat) (S : Nat → Nat × Nat) : Prop := (∀ j, j < 19 → S (c + j) = feS j) ∧ ((R c 4 = some (c + 1) ∧ R c 6 = some (c + 2) ∧ R c 7 = some (c + 3) ∧ R c 9 = some (c + 4) ∧ R c 10 = some (c + 5) ∧ R c 11 = some (c + 6)) ∧ ∀ r, r < 6 → R (c + 1) r = some (c + (7 + 2 * r)) ∧ R (c + (7 + 2 * r)) 2 = some (c + (8 + 2 * r))) ∧ (K c 1 = nI 0 ∧ K c 2 = nI 0 ∧ K c 3 = nI 0 ∧ K c 5 = nI 0 ∧ K c 8 = nI 0 ∧ K c 12 = -1 ∧ K c 13 = nI 0 ∧ K c 14 = nI 0) ∧ (∀ p, p < 24 → K (c + 4) p = -1 ∧ K (c + 5) p = -1) ∧ ∀ v, v < 4 → K (c + 6) v = nI 0
theorem FeB.fr {c : Nat} {K K' : Nat → Nat → Int32} {R R' : Nat → Nat → Option Nat} {S S' : Nat → Nat × Nat} (h : FeB c K R S) (hK : ∀ a j, c ≤ a → a < c + 19 → K' a j = K a j) (hR : ∀ a j, c ≤ a → a < c + 19 → R' a j = R a j) (hS : ∀ a, c ≤ a → a < c + 19 → S' a = S a) : FeB c K' R' S' := by
  obtain ⟨h1, ⟨h2, h3⟩, h4, h5, h6⟩ := h
  refine ⟨fun j hj => by rw [hS _ (by omega) (by omega)]; exact h1 j hj, ⟨by rw [hR c 4 (by omega) (by omega), hR c 6 (by omega) (by omega), hR c 7 (by omega) (by omega), hR c 9 (by omega) (by omega), hR c 10 (by omega) (by omega), hR c 11 (by omega) (by omega)]; exact h2, fun r hr => by rw [hR (c + 1) _ (by omega) (by omega), hR (c + (7 + 2 * r)) _ (by omega) (by omega)]; exact h3 r hr⟩, by rw [hK c 1 (by omega) (by omega), hK c 2 (by omega) (by omega), hK c 3 (by omega) (by omega), hK c 5 (by omega) (by omega), hK c 8 (by omega) (by omega), hK c 12 (by omega) (by omega), hK c 13 (by omega) (by omega), hK c 14 (by omega) (by omega)]; exact h4, fun p hp => by rw [hK (c + 4) p (by omega) (by omega), hK (c + 5) p (by omega) (by omega)]; exact h5 p hp, fun v hv => by rw [hK (c + 6) v (by omega) (by omega)]; exact h6 v hv⟩
/-- the rules of a feature, i of them made -/
def FeL (c i : Nat) (K : Nat → Nat → Int32) (R : Nat → Nat → Option Nat) (L : Nat → Nat → Int64) (S : Nat → Nat × Nat) (K1 : Nat → Nat → Int32) (R1 : Nat → Nat → Option Nat) (L1 : Nat → Nat → Int64) (S1 : Nat → Nat × Nat) : Prop :=
  (∀ a j, a < c + 7 → K1 a j = K a j) ∧ (∀ a j, a < c + 7 → a ≠ c + 1 → R1 a j = R a j) ∧ (∀ a j, a < c + 7 → L1 a j = L a j) ∧ (∀ a, a < c + 7 → S1 a = S a) ∧ ShN S1 (c + (7 + 2 * i)) ∧ ∀ r, r < i → R1 (c + 1) r = some (c + (7 + 2 * r)) ∧ RuB (c + (7 + 2 * r)) K1 R1 S1
theorem RuB.fr {c : Nat} {K K' : Nat → Nat → Int32} {R R' : Nat → Nat → Option Nat} {S S' : Nat → Nat × Nat} (h : RuB c K R S) (hR : R' c 2 = R c 2) (hS : S' c = S c ∧ S' (c + 1) = S (c + 1)) : RuB c K' R' S' := by
  obtain ⟨⟨h1, h2⟩, h3, h4⟩ := h
  exact ⟨⟨hS.1.trans h1, hS.2.trans h2⟩, hR.trans h3, trivial⟩
/-- the loop over the rules -/
theorem l_Fe_init {d c : Nat} {K : Nat → Nat → Int32} {R : Nat → Nat → Option Nat} {L : Nat → Nat → Int64} {S : Nat → Nat × Nat} {Q : Option Value → HS → Prop} (hc : S c = (3, 0)) (hc1 : S (c + 1) = (16, 6)) (h4 : R c 4 = some (c + 1)) (hd : 9 ≤ d) (kk : ∀ K1 R1 L1 S1, FeL c 6 K R L S K1 R1 L1 S1 → Run mi_Fe_init d 0 0 122 [(0, .ref c)] [] (K1, R1, L1, S1, c + 19) Q) : ∀ (n_ i : Nat) (K1 : Nat → Nat → Int32) (R1 : Nat → Nat → Option Nat) (L1 : Nat → Nat → Int64) (S1 : Nat → Nat × Nat), 6 - i = n_ → i ≤ 6 → FeL c i K R L S K1 R1 L1 S1 → Run mi_Fe_init d (2 * n_) (6 * n_) 97 [(0, .ref c), (1, .int (nI i))] [] (K1, R1, L1, S1, c + (7 + 2 * i)) Q := by
  intro n_
  induction n_ with
  | zero =>
    intro i K1 R1 L1 S1 hn hi h
    obtain rfl : i = 6 := by omega
    refine r_iload_n (pc2 := 98) d_Fe_init_97 rfl rfl ?_
    refine r_bipush (v := nI 6) (pc2 := 100) d_Fe_init_98 rfl (by decide) ?_
    refine q_icmp_ge (tgt := 122) (A := ((6 : Nat) : Int)) (B := ((6 : Nat) : Int)) (pc2 := 103) d_Fe_init_100 rfl rfl (nI_toInt (by omega)) (nI_toInt (by omega)) (fun c1 => ?_) (fun c1 => ?_)
    · exact Run.sub (l2 := [(0, .ref c)]) ⟨rfl, trivial⟩ (kk K1 R1 L1 S1 h)
    · omega
  | succ n_ ih =>
    intro i K1 R1 L1 S1 hn hi h
    obtain ⟨a1, a2, a3, a4, a5, a6⟩ := h
    refine r_iload_n (pc2 := 98) d_Fe_init_97 rfl rfl ?_
    refine r_bipush (v := nI 6) (pc2 := 100) d_Fe_init_98 rfl (by decide) ?_
    refine q_icmp_ge (tgt := 122) (A := ((i : Nat) : Int)) (B := ((6 : Nat) : Int)) (pc2 := 103) d_Fe_init_100 rfl rfl (nI_toInt (by omega)) (nI_toInt (by omega)) (fun c1 => ?_) (fun c1 => ?_)
    · omega
    · refine r_aload_n (x := some c) (pc2 := 104) d_Fe_init_103 rfl rfl ?_
      refine q_getR (x := some (c + 1)) (pc2 := 107) d_Fe_init_104 rfl k_Fe_26 rfl ((a4 c (by omega)).trans hc) ((a2 c 4 (by omega) (by omega)).trans h4) ?_
      refine r_iload_n (pc2 := 108) d_Fe_init_107 rfl rfl ?_
      refine r_new (ci := 6) (pc2 := 111) (ac1 := 2 * n_ + 1) (az1 := 6 * n_ + 3) d_Fe_init_108 rfl (by decide) k_Fe_24 nw_Ru iw_Ru (by omega) (by show 3 + (6 * n_ + 3) ≤ _; omega) ?_
      obtain ⟨K2, R2, L2, S2, hal, hzr, e1_, e2_, e3_, e4_⟩ : ∃ Ka Ra La Sa, AL 6 0 (c + (7 + 2 * i)) K1 R1 L1 S1 Ka Ra La Sa ∧ ZR (c + (7 + 2 * i)) Ka Ra ∧ Ka = z1 K1 (c + (7 + 2 * i)) 0 ∧ Ra = z1 R1 (c + (7 + 2 * i)) none ∧ La = z1 L1 (c + (7 + 2 * i)) 0 ∧ Sa = s1 S1 (c + (7 + 2 * i)) (6, 0) := ⟨_, _, _, _, al_z, zr_z, rfl, rfl, rfl, rfl⟩
      show Run _ _ _ _ _ _ _ (z1 K1 (c + (7 + 2 * i)) 0, z1 R1 (c + (7 + 2 * i)) none, z1 L1 (c + (7 + 2 * i)) 0, s1 S1 (c + (7 + 2 * i)) (6, 0), c + (7 + 2 * i) + 1) _
      rw [← e1_, ← e2_, ← e3_, ← e4_]
      clear e1_ e2_ e3_ e4_
      have hN2 := hal.n a5
      refine r_dup (pc2 := 112) d_Fe_init_111 rfl rfl ?_
      refine r_calli (M2 := mi_Ru_init) (pc2 := 115) (as := []) (rest := [.ref (c + (7 + 2 * i)), .int (nI i), .ref (c + 1)]) d_Fe_init_112 rfl k_Fe_61 cm_Ru_init ci_Ru_init rfl rfl rfl rfl (Nat.le_of_ble_eq_true rfl) (c_Ru_init (I := K2) (R := R2) (L := L2) (sh := S2) (c := c + (7 + 2 * i)) hal.2.2.2.2 hN2 (d := d - 1) (by omega)) (d2 := d - 1) (ac1 := 2 * n_) (az1 := 6 * n_) (by omega) (by omega) (by omega) (fun r2 h2 hq2 => ?_)
      obtain ⟨rfl, K3, R3, L3, S3, rfl, hfb, hN3, hbk⟩ := hq2
      change Run _ _ _ _ _ _ [.ref (c + (7 + 2 * i)), .int (nI i), .ref (c + 1)] (K3, R3, L3, S3, c + (7 + 2 * i) + 2) _
      refine r_aastore (q := i) (ci := 6) (kd := 16) (pc2 := 116) d_Fe_init_115 rfl ((hfb.2.2.2 _ (by omega)).trans ((hal.2.2.2.1 _ (by omega)).trans ((a4 _ (by omega)).trans hc1))) (by decide) (by decide) (nI_toInt (by omega)) (by omega) hbk.1.1 (by decide) rfl ?_
      refine q_iinc (b := 1) (pc2 := 119) d_Fe_init_116 rfl rfl (by decide) (Nat.le_of_ble_eq_true rfl) ?_
      refine r_goto (tgt := 97) d_Fe_init_119 rfl ?_
      refine Run.sub (l2 := [(0, .ref c), (1, .int (nI (i + 1)))]) ⟨rfl, rfl, trivial⟩ ?_
      have e : c + (7 + 2 * i) + 2 = c + (7 + 2 * (i + 1)) := by omega
      rw [e] at hN3 ⊢
      refine ih (i + 1) K3 _ L3 S3 (by omega) (by omega) ⟨fun a j q => (hfb.1 a j (by omega)).trans ((hal.1 a j (by omega)).trans (a1 a j q)), fun a j q q2 => (rd_ne rfl q2).trans ((hfb.2.1 a j (by omega)).trans ((hal.2.1 a j (by omega)).trans (a2 a j q q2))), fun a j q => (hfb.2.2.1 a j (by omega)).trans ((hal.2.2.1 a j (by omega)).trans (a3 a j q)), fun a q => (hfb.2.2.2 a (by omega)).trans ((hal.2.2.2.1 a (by omega)).trans (a4 a q)), hN3, fun r hr => ?_⟩
      by_cases z : r = i
      · subst z
        exact ⟨rd_eq rfl, hbk.fr (rd_ne rfl (by omega)) ⟨rfl, rfl⟩⟩
      · obtain ⟨b1, b2⟩ := a6 r (by omega)
        exact ⟨(rd_nk rfl z).trans ((hfb.2.1 _ _ (by omega)).trans ((hal.2.1 _ _ (by omega)).trans b1)), b2.fr ((rd_ne rfl (by omega)).trans ((hfb.2.1 _ _ (by omega)).trans (hal.2.1 _ _ (by omega)))) ⟨(hfb.2.2.2 _ (by omega)).trans (hal.2.2.2.1 _ (by omega)), (hfb.2.2.2 _ (by omega)).trans (hal.2.2.2.1 _ (by omega))⟩⟩
theorem c_Fe_init {d : Nat} {I : Nat → Nat → Int32} {R : Nat → Nat → Option Nat} {L : Nat → Nat → Int64} {sh : Nat → Nat × Nat} {c : Nat} (hc0 : sh c = (3, 0)) (hN0 : ShN sh (c + 1)) (hd : 9 ≤ d) : Mt mi_Fe_init d 18 100 [.ref c] (I, R, L, sh, c + 1) (fun x h2 => x = none ∧ ∃ K R1 L1 S1, h2 = (K, R1, L1, S1, c + 19) ∧ FrB c I R L sh K R1 L1 S1 ∧ ShN S1 (c + 19) ∧ FeB c K R1 S1) := by
  refine Mt.of pn_Fe (Nat.le_of_ble_eq_true rfl) ?_
  show Run mi_Fe_init d 18 100 0 [(0, .ref c)] [] (I, R, L, sh, c + 1) _
  refine r_aload_n (x := some c) (pc2 := 1) d_Fe_init_0 rfl rfl ?_
  refine r_objInit (pc2 := 4) d_Fe_init_1 rfl k_Fe_3 oi_inst oi_code (by omega) (Nat.le_of_ble_eq_true rfl) ?_
  refine r_aload_n (x := some c) (pc2 := 5) d_Fe_init_4 rfl rfl ?_
  refine r_iconst (v := nI 1) (pc2 := 6) d_Fe_init_5 rfl (by decide) ?_
  refine q_putI (pc2 := 9) d_Fe_init_6 rfl k_Fe_9 (Or.inl rfl) hc0 (by first | exact Or.inl rfl | exact Or.inr ⟨rfl, rfl⟩) (fun I1 hI1 => ?_)
  refine r_aload_n (x := some c) (pc2 := 10) d_Fe_init_9 rfl rfl ?_
  refine r_iconst (v := nI 0) (pc2 := 11) d_Fe_init_10 rfl (by decide) ?_
  refine q_putI (pc2 := 14) d_Fe_init_11 rfl k_Fe_15 (Or.inl rfl) hc0 (by first | exact Or.inl rfl | exact Or.inr ⟨rfl, rfl⟩) (fun I2 hI2 => ?_)
  refine r_aload_n (x := some c) (pc2 := 15) d_Fe_init_14 rfl rfl ?_
  refine r_iconst (v := nI 0) (pc2 := 16) d_Fe_init_15 rfl (by decide) ?_
  refine q_putI (pc2 := 19) d_Fe_init_16 rfl k_Fe_18 (Or.inl rfl) hc0 (by first | exact Or.inl rfl | exact Or.inr ⟨rfl, rfl⟩) (fun I3 hI3 => ?_)
  refine r_aload_n (x := some c) (pc2 := 20) d_Fe_init_19 rfl rfl ?_
  refine r_iconst (v := nI 0) (pc2 := 21) d_Fe_init_20 rfl (by decide) ?_
  refine q_putI (pc2 := 24) d_Fe_init_21 rfl k_Fe_21 (Or.inl rfl) hc0 (by first | exact Or.inl rfl | exact Or.inr ⟨rfl, rfl⟩) (fun I4 hI4 => ?_)
  refine r_aload_n (x := some c) (pc2 := 25) d_Fe_init_24 rfl rfl ?_
  refine r_bipush (v := nI 6) (pc2 := 27) d_Fe_init_25 rfl (by decide) ?_
  refine r_anewarray (kd := 16) (ci := 6) (len := 6) (pc2 := 30) (ac1 := 17) (az1 := 94) d_Fe_init_27 rfl (by decide) (by decide) rfl k_Fe_24 (nI_toInt (by decide)) (by omega) (by omega) (by omega) ?_
  obtain ⟨K5, R5, L5, S5, hal5, hzr5, e1_, e2_, e3_, e4_⟩ : ∃ Ka Ra La Sa, AL 16 6 (c + 1) I4 R L sh Ka Ra La Sa ∧ ZR (c + 1) Ka Ra ∧ Ka = z1 I4 (c + 1) 0 ∧ Ra = z1 R (c + 1) none ∧ La = z1 L (c + 1) 0 ∧ Sa = s1 sh (c + 1) (16, 6) := ⟨_, _, _, _, al_z, zr_z, rfl, rfl, rfl, rfl⟩
  show Run _ _ _ _ _ _ _ (z1 I4 (c + 1) 0, z1 R (c + 1) none, z1 L (c + 1) 0, s1 sh (c + 1) (16, 6), c + 2) _
  rw [← e1_, ← e2_, ← e3_, ← e4_]
  clear e1_ e2_ e3_ e4_
  have hN5 := hal5.n hN0
  have hc5 : S5 c = _ := (hal5.2.2.2.1 c (by omega)).trans hc0
  refine q_putR (x := some (c + 1)) (pc2 := 33) d_Fe_init_30 rfl k_Fe_26 rfl hc5 (by first | exact Or.inl rfl | exact Or.inr ⟨rfl, rfl⟩) (fun R6 hR6 => ?_)
  refine r_aload_n (x := some c) (pc2 := 34) d_Fe_init_33 rfl rfl ?_
  refine r_iconst (v := nI 0) (pc2 := 35) d_Fe_init_34 rfl (by decide) ?_
  refine q_putI (pc2 := 38) d_Fe_init_35 rfl k_Fe_30 (Or.inl rfl) hc5 (by first | exact Or.inl rfl | exact Or.inr ⟨rfl, rfl⟩) (fun I7 hI7 => ?_)
  refine r_aload_n (x := some c) (pc2 := 39) d_Fe_init_38 rfl rfl ?_
  refine r_iconst (v := nI 3) (pc2 := 40) d_Fe_init_39 rfl (by decide) ?_
  refine r_newarray (at_ := .int) (len := 3) (pc2 := 42) (ac1 := 16) (az1 := 91) d_Fe_init_40 rfl (by decide) aw_int (nI_toInt (by decide)) (by omega) (by omega) (by omega) ?_
  obtain ⟨K8, R8, L8, S8, hal8, hzr8, e1_, e2_, e3_, e4_⟩ : ∃ Ka Ra La Sa, AL 12 3 (c + 2) I7 R6 L5 S5 Ka Ra La Sa ∧ ZR (c + 2) Ka Ra ∧ Ka = z1 I7 (c + 2) 0 ∧ Ra = z1 R6 (c + 2) none ∧ La = z1 L5 (c + 2) 0 ∧ Sa = s1 S5 (c + 2) (12, 3) := ⟨_, _, _, _, al_z, zr_z, rfl, rfl, rfl, rfl⟩
  show Run _ _ _ _ _ _ _ (z1 I7 (c + 2) 0, z1 R6 (c + 2) none, z1 L5 (c + 2) 0, s1 S5 (c + 2) (12, 3), c + 3) _
  rw [← e1_, ← e2_, ← e3_, ← e4_]
  clear e1_ e2_ e3_ e4_
  have hN8 := hal8.n hN5
  have hc8 : S8 c = _ := (hal8.2.2.2.1 c (by omega)).trans hc5
  refine q_putR (x := some (c + 2)) (pc2 := 45) d_Fe_init_42 rfl k_Fe_33 rfl hc8 (by first | exact Or.inl rfl | exact Or.inr ⟨rfl, rfl⟩) (fun R9 hR9 => ?_)
  refine r_aload_n (x := some c) (pc2 := 46) d_Fe_init_45 rfl rfl ?_
  refine r_iconst (v := nI 3) (pc2 := 47) d_Fe_init_46 rfl (by decide) ?_
  refine r_newarray (at_ := .int) (len := 3) (pc2 := 49) (ac1 := 15) (az1 := 88) d_Fe_init_47 rfl (by decide) aw_int (nI_toInt (by decide)) (by omega) (by omega) (by omega) ?_
  obtain ⟨K10, R10, L10, S10, hal10, hzr10, e1_, e2_, e3_, e4_⟩ : ∃ Ka Ra La Sa, AL 12 3 (c + 3) K8 R9 L8 S8 Ka Ra La Sa ∧ ZR (c + 3) Ka Ra ∧ Ka = z1 K8 (c + 3) 0 ∧ Ra = z1 R9 (c + 3) none ∧ La = z1 L8 (c + 3) 0 ∧ Sa = s1 S8 (c + 3) (12, 3) := ⟨_, _, _, _, al_z, zr_z, rfl, rfl, rfl, rfl⟩
  show Run _ _ _ _ _ _ _ (z1 K8 (c + 3) 0, z1 R9 (c + 3) none, z1 L8 (c + 3) 0, s1 S8 (c + 3) (12, 3), c + 4) _
  rw [← e1_, ← e2_, ← e3_, ← e4_]
  clear e1_ e2_ e3_ e4_
  have hN10 := hal10.n hN8
  have hc10 : S10 c = _ := (hal10.2.2.2.1 c (by omega)).trans hc8
  refine q_putR (x := some (c + 3)) (pc2 := 52) d_Fe_init_49 rfl k_Fe_37 rfl hc10 (by first | exact Or.inl rfl | exact Or.inr ⟨rfl, rfl⟩) (fun R11 hR11 => ?_)
  refine r_aload_n (x := some c) (pc2 := 53) d_Fe_init_52 rfl rfl ?_
  refine r_iconst (v := nI 0) (pc2 := 54) d_Fe_init_53 rfl (by decide) ?_
  refine q_putI (pc2 := 57) d_Fe_init_54 rfl k_Fe_40 (Or.inl rfl) hc10 (by first | exact Or.inl rfl | exact Or.inr ⟨rfl, rfl⟩) (fun I12 hI12 => ?_)
  refine r_aload_n (x := some c) (pc2 := 58) d_Fe_init_57 rfl rfl ?_
  refine r_bipush (v := nI 24) (pc2 := 60) d_Fe_init_58 rfl (by decide) ?_
  refine r_newarray (at_ := .int) (len := 24) (pc2 := 62) (ac1 := 14) (az1 := 64) d_Fe_init_60 rfl (by decide) aw_int (nI_toInt (by decide)) (by omega) (by omega) (by omega) ?_
  obtain ⟨K13, R13, L13, S13, hal13, hzr13, e1_, e2_, e3_, e4_⟩ : ∃ Ka Ra La Sa, AL 12 24 (c + 4) I12 R11 L10 S10 Ka Ra La Sa ∧ ZR (c + 4) Ka Ra ∧ Ka = z1 I12 (c + 4) 0 ∧ Ra = z1 R11 (c + 4) none ∧ La = z1 L10 (c + 4) 0 ∧ Sa = s1 S10 (c + 4) (12, 24) := ⟨_, _, _, _, al_z, zr_z, rfl, rfl, rfl, rfl⟩
  show Run _ _ _ _ _ _ _ (z1 I12 (c + 4) 0, z1 R11 (c + 4) none, z1 L10 (c + 4) 0, s1 S10 (c + 4) (12, 24), c + 5) _
  rw [← e1_, ← e2_, ← e3_, ← e4_]
  clear e1_ e2_ e3_ e4_
  have hN13 := hal13.n hN10
  have hc13 : S13 c = _ := (hal13.2.2.2.1 c (by omega)).trans hc10
  refine q_putR (x := some (c + 4)) (pc2 := 65) d_Fe_init_62 rfl k_Fe_43 rfl hc13 (by first | exact Or.inl rfl | exact Or.inr ⟨rfl, rfl⟩) (fun R14 hR14 => ?_)
  refine r_aload_n (x := some c) (pc2 := 66) d_Fe_init_65 rfl rfl ?_
  refine r_bipush (v := nI 24) (pc2 := 68) d_Fe_init_66 rfl (by decide) ?_
  refine r_newarray (at_ := .int) (len := 24) (pc2 := 70) (ac1 := 13) (az1 := 40) d_Fe_init_68 rfl (by decide) aw_int (nI_toInt (by decide)) (by omega) (by omega) (by omega) ?_
  obtain ⟨K15, R15, L15, S15, hal15, hzr15, e1_, e2_, e3_, e4_⟩ : ∃ Ka Ra La Sa, AL 12 24 (c + 5) K13 R14 L13 S13 Ka Ra La Sa ∧ ZR (c + 5) Ka Ra ∧ Ka = z1 K13 (c + 5) 0 ∧ Ra = z1 R14 (c + 5) none ∧ La = z1 L13 (c + 5) 0 ∧ Sa = s1 S13 (c + 5) (12, 24) := ⟨_, _, _, _, al_z, zr_z, rfl, rfl, rfl, rfl⟩
  show Run _ _ _ _ _ _ _ (z1 K13 (c + 5) 0, z1 R14 (c + 5) none, z1 L13 (c + 5) 0, s1 S13 (c + 5) (12, 24), c + 6) _
  rw [← e1_, ← e2_, ← e3_, ← e4_]
  clear e1_ e2_ e3_ e4_
  have hN15 := hal15.n hN13
  have hc15 : S15 c = _ := (hal15.2.2.2.1 c (by omega)).trans hc13
  refine q_putR (x := some (c + 5)) (pc2 := 73) d_Fe_init_70 rfl k_Fe_46 rfl hc15 (by first | exact Or.inl rfl | exact Or.inr ⟨rfl, rfl⟩) (fun R16 hR16 => ?_)
  refine r_aload_n (x := some c) (pc2 := 74) d_Fe_init_73 rfl rfl ?_
  refine r_iconst (v := nI 4) (pc2 := 75) d_Fe_init_74 rfl (by decide) ?_
  refine r_newarray (at_ := .int) (len := 4) (pc2 := 77) (ac1 := 12) (az1 := 36) d_Fe_init_75 rfl (by decide) aw_int (nI_toInt (by decide)) (by omega) (by omega) (by omega) ?_
  obtain ⟨K17, R17, L17, S17, hal17, hzr17, e1_, e2_, e3_, e4_⟩ : ∃ Ka Ra La Sa, AL 12 4 (c + 6) K15 R16 L15 S15 Ka Ra La Sa ∧ ZR (c + 6) Ka Ra ∧ Ka = z1 K15 (c + 6) 0 ∧ Ra = z1 R16 (c + 6) none ∧ La = z1 L15 (c + 6) 0 ∧ Sa = s1 S15 (c + 6) (12, 4) := ⟨_, _, _, _, al_z, zr_z, rfl, rfl, rfl, rfl⟩
  show Run _ _ _ _ _ _ _ (z1 K15 (c + 6) 0, z1 R16 (c + 6) none, z1 L15 (c + 6) 0, s1 S15 (c + 6) (12, 4), c + 7) _
  rw [← e1_, ← e2_, ← e3_, ← e4_]
  clear e1_ e2_ e3_ e4_
  have hN17 := hal17.n hN15
  have hc17 : S17 c = _ := (hal17.2.2.2.1 c (by omega)).trans hc15
  refine q_putR (x := some (c + 6)) (pc2 := 80) d_Fe_init_77 rfl k_Fe_49 rfl hc17 (by first | exact Or.inl rfl | exact Or.inr ⟨rfl, rfl⟩) (fun R18 hR18 => ?_)
  refine r_aload_n (x := some c) (pc2 := 81) d_Fe_init_80 rfl rfl ?_
  refine r_iconst (v := (-1)) (pc2 := 82) d_Fe_init_81 rfl (by decide) ?_
  refine q_putI (pc2 := 85) d_Fe_init_82 rfl k_Fe_52 (Or.inl rfl) hc17 (by first | exact Or.inl rfl | exact Or.inr ⟨rfl, rfl⟩) (fun I19 hI19 => ?_)
  refine r_aload_n (x := some c) (pc2 := 86) d_Fe_init_85 rfl rfl ?_
  refine r_iconst (v := nI 0) (pc2 := 87) d_Fe_init_86 rfl (by decide) ?_
  refine q_putI (pc2 := 90) d_Fe_init_87 rfl k_Fe_55 (Or.inl rfl) hc17 (by first | exact Or.inl rfl | exact Or.inr ⟨rfl, rfl⟩) (fun I20 hI20 => ?_)
  refine r_aload_n (x := some c) (pc2 := 91) d_Fe_init_90 rfl rfl ?_
  refine r_iconst (v := nI 0) (pc2 := 92) d_Fe_init_91 rfl (by decide) ?_
  refine q_putI (pc2 := 95) d_Fe_init_92 rfl k_Fe_58 (Or.inl rfl) hc17 (by first | exact Or.inl rfl | exact Or.inr ⟨rfl, rfl⟩) (fun I21 hI21 => ?_)
  refine r_iconst (v := nI 0) (pc2 := 96) d_Fe_init_95 rfl (by decide) ?_
  refine r_istore_n (pc2 := 97) d_Fe_init_96 rfl rfl (Nat.le_of_ble_eq_true rfl) ?_
  refine Run.sub (l2 := [(0, .ref c), (1, .int (nI 0))]) ⟨rfl, rfl, trivial⟩ ?_
  refine l_Fe_init (K := I21) (R := R18) (L := L17) (S := S17) hc17 ((hal17.2.2.2.1 _ (by omega)).trans ((hal15.2.2.2.1 _ (by omega)).trans ((hal13.2.2.2.1 _ (by omega)).trans ((hal10.2.2.2.1 _ (by omega)).trans ((hal8.2.2.2.1 _ (by omega)).trans (hal5.2.2.2.2)))))) ((rd_nk hR18 (by decide)).trans ((hal17.2.1 _ _ (by omega)).trans ((rd_nk hR16 (by decide)).trans ((hal15.2.1 _ _ (by omega)).trans ((rd_nk hR14 (by decide)).trans ((hal13.2.1 _ _ (by omega)).trans ((rd_nk hR11 (by decide)).trans ((hal10.2.1 _ _ (by omega)).trans ((rd_nk hR9 (by decide)).trans ((hal8.2.1 _ _ (by omega)).trans (rd_eq hR6))))))))))) (by omega) (fun KL RL LL SL hF => ?_) 6 0 I21 R18 L17 S17 rfl (by omega) ⟨fun _ _ _ => rfl, fun _ _ _ _ => rfl, fun _ _ _ => rfl, fun _ _ => rfl, hN17, fun r hr => absurd hr (Nat.not_lt_zero _)⟩
  have hcL : SL c = _ := (hF.2.2.2.1 c (by omega)).trans hc17
  refine r_aload_n (x := some c) (pc2 := 123) d_Fe_init_122 rfl rfl ?_
  refine q_getR (x := some (c + 4)) (pc2 := 126) d_Fe_init_123 rfl k_Fe_43 rfl hcL ((hF.2.1 _ _ (by omega) (by omega)).trans ((rd_nk hR18 (by decide)).trans ((hal17.2.1 _ _ (by omega)).trans ((rd_nk hR16 (by decide)).trans ((hal15.2.1 _ _ (by omega)).trans (rd_eq hR14)))))) ?_
  refine r_iconst (v := (-1)) (pc2 := 127) d_Fe_init_126 rfl (by decide) ?_
  refine r_calls (M2 := mi_JA_fillI) (pc2 := 130) (as := [.ref (c + 4), .int (-1)]) (rest := []) d_Fe_init_127 rfl k_Fe_62 cm_JA_fillI cs_JA_fillI rfl rfl (Nat.le_of_ble_eq_true rfl) (c_JA_fillI0 (J := KL) (R := RL) (L := LL) (sh := SL) (A := c + 4) (n := 24) ((hF.2.2.2.1 _ (by omega)).trans ((hal17.2.2.2.1 _ (by omega)).trans ((hal15.2.2.2.1 _ (by omega)).trans (hal13.2.2.2.2)))) (by omega)) (d2 := d - 1) (ac1 := 0) (az1 := 0) (by omega) (by omega) (by omega) (fun r2 h2 hq2 => ?_)
  obtain ⟨rfl, I22, rfl, hI22⟩ := hq2
  change Run _ _ _ _ _ _ [] _ _
  refine r_aload_n (x := some c) (pc2 := 131) d_Fe_init_130 rfl rfl ?_
  refine q_getR (x := some (c + 5)) (pc2 := 134) d_Fe_init_131 rfl k_Fe_46 rfl hcL ((hF.2.1 _ _ (by omega) (by omega)).trans ((rd_nk hR18 (by decide)).trans ((hal17.2.1 _ _ (by omega)).trans (rd_eq hR16)))) ?_
  refine r_iconst (v := (-1)) (pc2 := 135) d_Fe_init_134 rfl (by decide) ?_
  refine r_calls (M2 := mi_JA_fillI) (pc2 := 138) (as := [.ref (c + 5), .int (-1)]) (rest := []) d_Fe_init_135 rfl k_Fe_62 cm_JA_fillI cs_JA_fillI rfl rfl (Nat.le_of_ble_eq_true rfl) (c_JA_fillI0 (J := I22) (R := RL) (L := LL) (sh := SL) (A := c + 5) (n := 24) ((hF.2.2.2.1 _ (by omega)).trans ((hal17.2.2.2.1 _ (by omega)).trans (hal15.2.2.2.2))) (by omega)) (d2 := d - 1) (ac1 := 0) (az1 := 0) (by omega) (by omega) (by omega) (fun r2 h2 hq2 => ?_)
  obtain ⟨rfl, I23, rfl, hI23⟩ := hq2
  change Run _ _ _ _ _ _ [] _ _
  refine Run.ret none d_Fe_init_138 rfl ?_
  refine ⟨rfl, _, _, _, _, rfl, ⟨fun a j q => (flR_o hI23 (by omega)).trans ((flR_o hI22 (by omega)).trans ((hF.1 _ _ (by omega)).trans ((rd_ne hI21 (by omega)).trans ((rd_ne hI20 (by omega)).trans ((rd_ne hI19 (by omega)).trans ((hal17.1 _ _ (by omega)).trans ((hal15.1 _ _ (by omega)).trans ((hal13.1 _ _ (by omega)).trans ((rd_ne hI12 (by omega)).trans ((hal10.1 _ _ (by omega)).trans ((hal8.1 _ _ (by omega)).trans ((rd_ne hI7 (by omega)).trans ((hal5.1 _ _ (by omega)).trans ((rd_ne hI4 (by omega)).trans ((rd_ne hI3 (by omega)).trans ((rd_ne hI2 (by omega)).trans (rd_ne hI1 (by omega)))))))))))))))))), fun a j q => (hF.2.1 _ _ (by omega) (by omega)).trans ((rd_ne hR18 (by omega)).trans ((hal17.2.1 _ _ (by omega)).trans ((rd_ne hR16 (by omega)).trans ((hal15.2.1 _ _ (by omega)).trans ((rd_ne hR14 (by omega)).trans ((hal13.2.1 _ _ (by omega)).trans ((rd_ne hR11 (by omega)).trans ((hal10.2.1 _ _ (by omega)).trans ((rd_ne hR9 (by omega)).trans ((hal8.2.1 _ _ (by omega)).trans ((rd_ne hR6 (by omega)).trans (hal5.2.1 _ _ (by omega))))))))))))), fun a j q => (hF.2.2.1 _ _ (by omega)).trans ((hal17.2.2.1 _ _ (by omega)).trans ((hal15.2.2.1 _ _ (by omega)).trans ((hal13.2.2.1 _ _ (by omega)).trans ((hal10.2.2.1 _ _ (by omega)).trans ((hal8.2.2.1 _ _ (by omega)).trans (hal5.2.2.1 _ _ (by omega))))))), fun a q => (hF.2.2.2.1 _ (by omega)).trans ((hal17.2.2.2.1 _ (by omega)).trans ((hal15.2.2.2.1 _ (by omega)).trans ((hal13.2.2.2.1 _ (by omega)).trans ((hal10.2.2.2.1 _ (by omega)).trans ((hal8.2.2.2.1 _ (by omega)).trans (hal5.2.2.2.1 _ (by omega)))))))⟩, hF.2.2.2.2.1, ⟨fun j hj => ?_, ⟨⟨(hF.2.1 _ _ (by omega) (by omega)).trans ((rd_nk hR18 (by decide)).trans ((hal17.2.1 _ _ (by omega)).trans ((rd_nk hR16 (by decide)).trans ((hal15.2.1 _ _ (by omega)).trans ((rd_nk hR14 (by decide)).trans ((hal13.2.1 _ _ (by omega)).trans ((rd_nk hR11 (by decide)).trans ((hal10.2.1 _ _ (by omega)).trans ((rd_nk hR9 (by decide)).trans ((hal8.2.1 _ _ (by omega)).trans (rd_eq hR6))))))))))), (hF.2.1 _ _ (by omega) (by omega)).trans ((rd_nk hR18 (by decide)).trans ((hal17.2.1 _ _ (by omega)).trans ((rd_nk hR16 (by decide)).trans ((hal15.2.1 _ _ (by omega)).trans ((rd_nk hR14 (by decide)).trans ((hal13.2.1 _ _ (by omega)).trans ((rd_nk hR11 (by decide)).trans ((hal10.2.1 _ _ (by omega)).trans (rd_eq hR9))))))))), (hF.2.1 _ _ (by omega) (by omega)).trans ((rd_nk hR18 (by decide)).trans ((hal17.2.1 _ _ (by omega)).trans ((rd_nk hR16 (by decide)).trans ((hal15.2.1 _ _ (by omega)).trans ((rd_nk hR14 (by decide)).trans ((hal13.2.1 _ _ (by omega)).trans (rd_eq hR11))))))), (hF.2.1 _ _ (by omega) (by omega)).trans ((rd_nk hR18 (by decide)).trans ((hal17.2.1 _ _ (by omega)).trans ((rd_nk hR16 (by decide)).trans ((hal15.2.1 _ _ (by omega)).trans (rd_eq hR14))))), (hF.2.1 _ _ (by omega) (by omega)).trans ((rd_nk hR18 (by decide)).trans ((hal17.2.1 _ _ (by omega)).trans (rd_eq hR16))), (hF.2.1 _ _ (by omega) (by omega)).trans (rd_eq hR18)⟩, fun r hr => ?_⟩, ⟨(flR_o hI23 (by omega)).trans ((flR_o hI22 (by omega)).trans ((hF.1 _ _ (by omega)).trans ((rd_nk hI21 (by decide)).trans ((rd_nk hI20 (by decide)).trans ((rd_nk hI19 (by decide)).trans ((hal17.1 _ _ (by omega)).trans ((hal15.1 _ _ (by omega)).trans ((hal13.1 _ _ (by omega)).trans ((rd_nk hI12 (by decide)).trans ((hal10.1 _ _ (by omega)).trans ((hal8.1 _ _ (by omega)).trans ((rd_nk hI7 (by decide)).trans ((hal5.1 _ _ (by omega)).trans ((rd_nk hI4 (by decide)).trans ((rd_nk hI3 (by decide)).trans (rd_eq hI2)))))))))))))))), (flR_o hI23 (by omega)).trans ((flR_o hI22 (by omega)).trans ((hF.1 _ _ (by omega)).trans ((rd_nk hI21 (by decide)).trans ((rd_nk hI20 (by decide)).trans ((rd_nk hI19 (by decide)).trans ((hal17.1 _ _ (by omega)).trans ((hal15.1 _ _ (by omega)).trans ((hal13.1 _ _ (by omega)).trans ((rd_nk hI12 (by decide)).trans ((hal10.1 _ _ (by omega)).trans ((hal8.1 _ _ (by omega)).trans ((rd_nk hI7 (by decide)).trans ((hal5.1 _ _ (by omega)).trans ((rd_nk hI4 (by decide)).trans (rd_eq hI3))))))))))))))), (flR_o hI23 (by omega)).trans ((flR_o hI22 (by omega)).trans ((hF.1 _ _ (by omega)).trans ((rd_nk hI21 (by decide)).trans ((rd_nk hI20 (by decide)).trans ((rd_nk hI19 (by decide)).trans ((hal17.1 _ _ (by omega)).trans ((hal15.1 _ _ (by omega)).trans ((hal13.1 _ _ (by omega)).trans ((rd_nk hI12 (by decide)).trans ((hal10.1 _ _ (by omega)).trans ((hal8.1 _ _ (by omega)).trans ((rd_nk hI7 (by decide)).trans ((hal5.1 _ _ (by omega)).trans (rd_eq hI4)))))))))))))), (flR_o hI23 (by omega)).trans ((flR_o hI22 (by omega)).trans ((hF.1 _ _ (by omega)).trans ((rd_nk hI21 (by decide)).trans ((rd_nk hI20 (by decide)).trans ((rd_nk hI19 (by decide)).trans ((hal17.1 _ _ (by omega)).trans ((hal15.1 _ _ (by omega)).trans ((hal13.1 _ _ (by omega)).trans ((rd_nk hI12 (by decide)).trans ((hal10.1 _ _ (by omega)).trans ((hal8.1 _ _ (by omega)).trans (rd_eq hI7)))))))))))), (flR_o hI23 (by omega)).trans ((flR_o hI22 (by omega)).trans ((hF.1 _ _ (by omega)).trans ((rd_nk hI21 (by decide)).trans ((rd_nk hI20 (by decide)).trans ((rd_nk hI19 (by decide)).trans ((hal17.1 _ _ (by omega)).trans ((hal15.1 _ _ (by omega)).trans ((hal13.1 _ _ (by omega)).trans (rd_eq hI12))))))))), (flR_o hI23 (by omega)).trans ((flR_o hI22 (by omega)).trans ((hF.1 _ _ (by omega)).trans ((rd_nk hI21 (by decide)).trans ((rd_nk hI20 (by decide)).trans (rd_eq hI19))))), (flR_o hI23 (by omega)).trans ((flR_o hI22 (by omega)).trans ((hF.1 _ _ (by omega)).trans ((rd_nk hI21 (by decide)).trans (rd_eq hI20)))), (flR_o hI23 (by omega)).trans ((flR_o hI22 (by omega)).trans ((hF.1 _ _ (by omega)).trans (rd_eq hI21)))⟩, fun p hp => ⟨(flR_o hI23 (by omega)).trans (flR_i hI22 hp), flR_i hI23 hp⟩, fun v hv => (flR_o hI23 (by omega)).trans ((flR_o hI22 (by omega)).trans ((hF.1 _ _ (by omega)).trans ((rd_ne hI21 (by omega)).trans ((rd_ne hI20 (by omega)).trans ((rd_ne hI19 (by omega)).trans (hzr17.1 _))))))⟩⟩
  · rcases (show j = 0 ∨ j = 1 ∨ j = 2 ∨ j = 3 ∨ j = 4 ∨ j = 5 ∨ j = 6 ∨ 7 ≤ j by omega) with rfl | rfl | rfl | rfl | rfl | rfl | rfl | z
    · exact (hF.2.2.2.1 _ (by omega)).trans ((hal17.2.2.2.1 _ (by omega)).trans ((hal15.2.2.2.1 _ (by omega)).trans ((hal13.2.2.2.1 _ (by omega)).trans ((hal10.2.2.2.1 _ (by omega)).trans ((hal8.2.2.2.1 _ (by omega)).trans ((hal5.2.2.2.1 _ (by omega)).trans (hc0)))))))
    · exact (hF.2.2.2.1 _ (by omega)).trans ((hal17.2.2.2.1 _ (by omega)).trans ((hal15.2.2.2.1 _ (by omega)).trans ((hal13.2.2.2.1 _ (by omega)).trans ((hal10.2.2.2.1 _ (by omega)).trans ((hal8.2.2.2.1 _ (by omega)).trans (hal5.2.2.2.2))))))
    · exact (hF.2.2.2.1 _ (by omega)).trans ((hal17.2.2.2.1 _ (by omega)).trans ((hal15.2.2.2.1 _ (by omega)).trans ((hal13.2.2.2.1 _ (by omega)).trans ((hal10.2.2.2.1 _ (by omega)).trans (hal8.2.2.2.2)))))
    · exact (hF.2.2.2.1 _ (by omega)).trans ((hal17.2.2.2.1 _ (by omega)).trans ((hal15.2.2.2.1 _ (by omega)).trans ((hal13.2.2.2.1 _ (by omega)).trans (hal10.2.2.2.2))))
    · exact (hF.2.2.2.1 _ (by omega)).trans ((hal17.2.2.2.1 _ (by omega)).trans ((hal15.2.2.2.1 _ (by omega)).trans (hal13.2.2.2.2)))
    · exact (hF.2.2.2.1 _ (by omega)).trans ((hal17.2.2.2.1 _ (by omega)).trans (hal15.2.2.2.2))
    · exact (hF.2.2.2.1 _ (by omega)).trans (hal17.2.2.2.2)
    · obtain ⟨r, hr | hr⟩ : ∃ r, j = 7 + 2 * r ∨ j = 8 + 2 * r := ⟨(j - 7) / 2, by omega⟩
      · subst hr
        rw [(feS_odd (by omega)).1]; exact (hF.2.2.2.2.2 r (by omega)).2.1.1
      · subst hr
        rw [(feS_odd (by omega)).2, show c + (8 + 2 * r) = c + (7 + 2 * r) + 1 by omega]; exact (hF.2.2.2.2.2 r (by omega)).2.1.2
  · obtain ⟨b1, b2⟩ := hF.2.2.2.2.2 r hr
    exact ⟨b1, b2.2.1.trans (congrArg some (by omega))⟩
/-- a desk as it is made -/
def DeB (c : Nat) (K : Nat → Nat → Int32) (R : Nat → Nat → Option Nat) (S : Nat → Nat × Nat) : Prop := PeB (c + 1) K R S ∧ StB (c + 5) K R S ∧ (S c = (2, 0) ∧ S (c + 4) = (15, 12)) ∧ (R c 0 = some (c + 1) ∧ R c 1 = some (c + 4) ∧ R c 3 = some (c + 5)) ∧ (K c 2 = nI 0 ∧ K c 4 = nI 0 ∧ K c 5 = nI 1 ∧ K c 6 = nI 0) ∧ ∀ F, F < 12 → R (c + 4) F = some (c + (11 + 19 * F)) ∧ FeB (c + (11 + 19 * F)) K R S
theorem PeB.fr {c : Nat} {K K' : Nat → Nat → Int32} {R R' : Nat → Nat → Option Nat} {S S' : Nat → Nat × Nat} (h : PeB c K R S) (hK : ∀ a j, c ≤ a → a < c + 3 → K' a j = K a j) (hR : ∀ a j, c ≤ a → a < c + 3 → R' a j = R a j) (hS : ∀ a, c ≤ a → a < c + 3 → S' a = S a) : PeB c K' R' S' := by
  unfold PeB at h ⊢
  rw [hK c _ (by omega) (by omega), hR c 0 (by omega) (by omega), hR c 1 (by omega) (by omega), hS c (by omega) (by omega), hS (c + 1) (by omega) (by omega), hS (c + 2) (by omega) (by omega)]
  exact h
theorem StB.fr {c : Nat} {K K' : Nat → Nat → Int32} {R R' : Nat → Nat → Option Nat} {S S' : Nat → Nat × Nat} (h : StB c K R S) (hK : ∀ a j, c ≤ a → a < c + 6 → K' a j = K a j) (hR : ∀ a j, c ≤ a → a < c + 6 → R' a j = R a j) (hS : ∀ a, c ≤ a → a < c + 6 → S' a = S a) : StB c K' R' S' := by
  unfold StB at h ⊢
  rw [hK c _ (by omega) (by omega), hR c 0 (by omega) (by omega), hR c 1 (by omega) (by omega), hR c 2 (by omega) (by omega), hR c 3 (by omega) (by omega), hR c 4 (by omega) (by omega), hS c (by omega) (by omega), hS (c + 1) (by omega) (by omega), hS (c + 2) (by omega) (by omega), hS (c + 3) (by omega) (by omega), hS (c + 4) (by omega) (by omega), hS (c + 5) (by omega) (by omega)]
  exact h
theorem DeB.fr {c : Nat} {K K' : Nat → Nat → Int32} {R R' : Nat → Nat → Option Nat} {S S' : Nat → Nat × Nat} (h : DeB c K R S) (hK : ∀ a j, c ≤ a → a < c + 239 → K' a j = K a j) (hR : ∀ a j, c ≤ a → a < c + 239 → R' a j = R a j) (hS : ∀ a, c ≤ a → a < c + 239 → S' a = S a) : DeB c K' R' S' := by
  obtain ⟨h1, h2, h3, h4, h5, h6⟩ := h
  refine ⟨h1.fr (fun a j x y => hK a j (by omega) (by omega)) (fun a j x y => hR a j (by omega) (by omega)) (fun a x y => hS a (by omega) (by omega)), h2.fr (fun a j x y => hK a j (by omega) (by omega)) (fun a j x y => hR a j (by omega) (by omega)) (fun a x y => hS a (by omega) (by omega)), by rw [hS c (by omega) (by omega), hS (c + 4) (by omega) (by omega)]; exact h3, by rw [hR c 0 (by omega) (by omega), hR c 1 (by omega) (by omega), hR c 3 (by omega) (by omega)]; exact h4, by rw [hK c 2 (by omega) (by omega), hK c 4 (by omega) (by omega), hK c 5 (by omega) (by omega), hK c 6 (by omega) (by omega)]; exact h5, fun F hF => ?_⟩
  obtain ⟨b1, b2⟩ := h6 F hF
  exact ⟨(hR _ _ (by omega) (by omega)).trans b1, b2.fr (fun a j x y => hK a j (by omega) (by omega)) (fun a j x y => hR a j (by omega) (by omega)) (fun a x y => hS a (by omega) (by omega))⟩
/-- the cells that a loop makes, i of them made -/
def DeL (c i : Nat) (K : Nat → Nat → Int32) (R : Nat → Nat → Option Nat) (L : Nat → Nat → Int64) (S : Nat → Nat × Nat) (K1 : Nat → Nat → Int32) (R1 : Nat → Nat → Option Nat) (L1 : Nat → Nat → Int64) (S1 : Nat → Nat × Nat) : Prop :=
  (∀ a j, a < c + 11 → K1 a j = K a j) ∧ (∀ a j, a < c + 11 → a ≠ c + 4 → R1 a j = R a j) ∧ (∀ a j, a < c + 11 → L1 a j = L a j) ∧ (∀ a, a < c + 11 → S1 a = S a) ∧ ShN S1 (c + (11 + 19 * i)) ∧ ∀ r, r < i → R1 (c + 4) r = some (c + (11 + 19 * r)) ∧ FeB (c + (11 + 19 * r)) K1 R1 S1
theorem l_De_init {d c : Nat} {K : Nat → Nat → Int32} {R : Nat → Nat → Option Nat} {L : Nat → Nat → Int64} {S : Nat → Nat × Nat} {Q : Option Value → HS → Prop} (hc : S c = (2, 0)) (hc1 : S (c + 4) = (15, 12)) (h4 : R c 1 = some (c + 4)) (hd : 10 ≤ d) (kk : ∀ K1 R1 L1 S1, DeL c 12 K R L S K1 R1 L1 S1 → Run mi_De_init d 0 0 82 [(0, .ref c)] [] (K1, R1, L1, S1, c + 239) Q) : ∀ (n_ i : Nat) (K1 : Nat → Nat → Int32) (R1 : Nat → Nat → Option Nat) (L1 : Nat → Nat → Int64) (S1 : Nat → Nat × Nat), 12 - i = n_ → i ≤ 12 → DeL c i K R L S K1 R1 L1 S1 → Run mi_De_init d (19 * n_) (115 * n_) 57 [(0, .ref c), (1, .int (nI i))] [] (K1, R1, L1, S1, c + (11 + 19 * i)) Q := by
  intro n_
  induction n_ with
  | zero =>
    intro i K1 R1 L1 S1 hn hi h
    obtain rfl : i = 12 := by omega
    refine r_iload_n (pc2 := 58) d_De_init_57 rfl rfl ?_
    refine r_bipush (v := nI 12) (pc2 := 60) d_De_init_58 rfl (by decide) ?_
    refine q_icmp_ge (tgt := 82) (A := ((12 : Nat) : Int)) (B := ((12 : Nat) : Int)) (pc2 := 63) d_De_init_60 rfl rfl (nI_toInt (by omega)) (nI_toInt (by omega)) (fun c1 => ?_) (fun c1 => ?_)
    · exact Run.sub (l2 := [(0, .ref c)]) ⟨rfl, trivial⟩ (kk K1 R1 L1 S1 h)
    · omega
  | succ n_ ih =>
    intro i K1 R1 L1 S1 hn hi h
    obtain ⟨a1, a2, a3, a4, a5, a6⟩ := h
    refine r_iload_n (pc2 := 58) d_De_init_57 rfl rfl ?_
    refine r_bipush (v := nI 12) (pc2 := 60) d_De_init_58 rfl (by decide) ?_
    refine q_icmp_ge (tgt := 82) (A := ((i : Nat) : Int)) (B := ((12 : Nat) : Int)) (pc2 := 63) d_De_init_60 rfl rfl (nI_toInt (by omega)) (nI_toInt (by omega)) (fun c1 => ?_) (fun c1 => ?_)
    · omega
    · refine r_aload_n (x := some c) (pc2 := 64) d_De_init_63 rfl rfl ?_
      refine q_getR (x := some (c + 4)) (pc2 := 67) d_De_init_64 rfl k_De_20 rfl ((a4 c (by omega)).trans hc) ((a2 c 1 (by omega) (by omega)).trans h4) ?_
      refine r_iload_n (pc2 := 68) d_De_init_67 rfl rfl ?_
      refine r_new (ci := 3) (pc2 := 71) (ac1 := 19 * n_ + 18) (az1 := 115 * n_ + 100) d_De_init_68 rfl (by decide) k_De_18 nw_Fe iw_Fe (by omega) (by show 15 + (115 * n_ + 100) ≤ _; omega) ?_
      obtain ⟨K2, R2, L2, S2, hal, hzr, e1_, e2_, e3_, e4_⟩ : ∃ Ka Ra La Sa, AL 3 0 (c + (11 + 19 * i)) K1 R1 L1 S1 Ka Ra La Sa ∧ ZR (c + (11 + 19 * i)) Ka Ra ∧ Ka = z1 K1 (c + (11 + 19 * i)) 0 ∧ Ra = z1 R1 (c + (11 + 19 * i)) none ∧ La = z1 L1 (c + (11 + 19 * i)) 0 ∧ Sa = s1 S1 (c + (11 + 19 * i)) (3, 0) := ⟨_, _, _, _, al_z, zr_z, rfl, rfl, rfl, rfl⟩
      show Run _ _ _ _ _ _ _ (z1 K1 (c + (11 + 19 * i)) 0, z1 R1 (c + (11 + 19 * i)) none, z1 L1 (c + (11 + 19 * i)) 0, s1 S1 (c + (11 + 19 * i)) (3, 0), c + (11 + 19 * i) + 1) _
      rw [← e1_, ← e2_, ← e3_, ← e4_]
      clear e1_ e2_ e3_ e4_
      have hN2 := hal.n a5
      refine r_dup (pc2 := 72) d_De_init_71 rfl rfl ?_
      refine r_calli (M2 := mi_Fe_init) (pc2 := 75) (as := []) (rest := [.ref (c + (11 + 19 * i)), .int (nI i), .ref (c + 4)]) d_De_init_72 rfl k_De_44 cm_Fe_init ci_Fe_init rfl rfl rfl rfl (Nat.le_of_ble_eq_true rfl) (c_Fe_init (I := K2) (R := R2) (L := L2) (sh := S2) (c := c + (11 + 19 * i)) hal.2.2.2.2 hN2 (d := d - 1) (by omega)) (d2 := d - 1) (ac1 := 19 * n_) (az1 := 115 * n_) (by omega) (by omega) (by omega) (fun r2 h2 hq2 => ?_)
      obtain ⟨rfl, K3, R3, L3, S3, rfl, hfb, hN3, hbk⟩ := hq2
      change Run _ _ _ _ _ _ [.ref (c + (11 + 19 * i)), .int (nI i), .ref (c + 4)] (K3, R3, L3, S3, c + (11 + 19 * i) + 19) _
      refine r_aastore (q := i) (ci := 3) (kd := 15) (pc2 := 76) d_De_init_75 rfl ((hfb.2.2.2 _ (by omega)).trans ((hal.2.2.2.1 _ (by omega)).trans ((a4 _ (by omega)).trans hc1))) (by decide) (by decide) (nI_toInt (by omega)) (by omega) (hbk.1 0 (by omega)) (by decide) rfl ?_
      refine q_iinc (b := 1) (pc2 := 79) d_De_init_76 rfl rfl (by decide) (Nat.le_of_ble_eq_true rfl) ?_
      refine r_goto (tgt := 57) d_De_init_79 rfl ?_
      refine Run.sub (l2 := [(0, .ref c), (1, .int (nI (i + 1)))]) ⟨rfl, rfl, trivial⟩ ?_
      have e : c + (11 + 19 * i) + 19 = c + (11 + 19 * (i + 1)) := by omega
      rw [e] at hN3 ⊢
      refine ih (i + 1) K3 _ L3 S3 (by omega) (by omega) ⟨fun a j q => (hfb.1 a j (by omega)).trans ((hal.1 a j (by omega)).trans (a1 a j q)), fun a j q q2 => (rd_ne rfl q2).trans ((hfb.2.1 a j (by omega)).trans ((hal.2.1 a j (by omega)).trans (a2 a j q q2))), fun a j q => (hfb.2.2.1 a j (by omega)).trans ((hal.2.2.1 a j (by omega)).trans (a3 a j q)), fun a q => (hfb.2.2.2 a (by omega)).trans ((hal.2.2.2.1 a (by omega)).trans (a4 a q)), hN3, fun r hr => ?_⟩
      by_cases z : r = i
      · subst z
        exact ⟨rd_eq rfl, hbk.fr (fun _ _ _ _ => rfl) (fun a j x y => rd_ne rfl (by omega)) (fun _ _ _ => rfl)⟩
      · obtain ⟨b1, b2⟩ := a6 r (by omega)
        exact ⟨(rd_nk rfl z).trans ((hfb.2.1 _ _ (by omega)).trans ((hal.2.1 _ _ (by omega)).trans b1)), b2.fr (fun a j x y => (hfb.1 _ _ (by omega)).trans (hal.1 _ _ (by omega))) (fun a j x y => (rd_ne rfl (by omega)).trans ((hfb.2.1 _ _ (by omega)).trans (hal.2.1 _ _ (by omega)))) (fun a x y => (hfb.2.2.2 _ (by omega)).trans (hal.2.2.2.1 _ (by omega)))⟩
theorem c_De_init {d : Nat} {I : Nat → Nat → Int32} {R : Nat → Nat → Option Nat} {L : Nat → Nat → Int64} {sh : Nat → Nat × Nat} {c : Nat} (hc0 : sh c = (2, 0)) (hN0 : ShN sh (c + 1)) (hd : 10 ≤ d) : Mt mi_De_init d 238 1569 [.ref c] (I, R, L, sh, c + 1) (fun x h2 => x = none ∧ ∃ K R1 L1 S1, h2 = (K, R1, L1, S1, c + 239) ∧ FrB c I R L sh K R1 L1 S1 ∧ ShN S1 (c + 239) ∧ DeB c K R1 S1) := by
  refine Mt.of pn_De (Nat.le_of_ble_eq_true rfl) ?_
  show Run mi_De_init d 238 1569 0 [(0, .ref c)] [] (I, R, L, sh, c + 1) _
  refine r_aload_n (x := some c) (pc2 := 1) d_De_init_0 rfl rfl ?_
  refine r_objInit (pc2 := 4) d_De_init_1 rfl k_De_3 oi_inst oi_code (by omega) (Nat.le_of_ble_eq_true rfl) ?_
  refine r_aload_n (x := some c) (pc2 := 5) d_De_init_4 rfl rfl ?_
  refine r_new (ci := 4) (pc2 := 8) (ac1 := 237) (az1 := 1566) d_De_init_5 rfl (by decide) k_De_9 nw_Pe iw_Pe (by omega) (by show 3 + 1566 ≤ _; omega) ?_
  obtain ⟨K1, R1, L1, S1, hal1, hzr1, e1_, e2_, e3_, e4_⟩ : ∃ Ka Ra La Sa, AL 4 0 (c + 1) I R L sh Ka Ra La Sa ∧ ZR (c + 1) Ka Ra ∧ Ka = z1 I (c + 1) 0 ∧ Ra = z1 R (c + 1) none ∧ La = z1 L (c + 1) 0 ∧ Sa = s1 sh (c + 1) (4, 0) := ⟨_, _, _, _, al_z, zr_z, rfl, rfl, rfl, rfl⟩
  show Run _ _ _ _ _ _ _ (z1 I (c + 1) 0, z1 R (c + 1) none, z1 L (c + 1) 0, s1 sh (c + 1) (4, 0), c + 2) _
  rw [← e1_, ← e2_, ← e3_, ← e4_]
  clear e1_ e2_ e3_ e4_
  have hN1 := hal1.n hN0
  have hc1 : S1 c = _ := (hal1.2.2.2.1 c (by omega)).trans hc0
  refine r_dup (pc2 := 9) d_De_init_8 rfl rfl ?_
  refine r_calli (M2 := mi_Pe_init) (pc2 := 12) (as := []) (rest := [.ref (c + 1), .ref c]) d_De_init_9 rfl k_De_11 cm_Pe_init ci_Pe_init rfl rfl rfl rfl (Nat.le_of_ble_eq_true rfl) (c_Pe_init (I := K1) (R := R1) (L := L1) (sh := S1) (c := c + 1) hal1.2.2.2.2 hN1 (d := d - 1) (by omega)) (d2 := d - 1) (ac1 := 235) (az1 := 1518) (by omega) (by omega) (by omega) (fun r2 h2 hq2 => ?_)
  obtain ⟨rfl, K2, R2, L2, S2, rfl, hfb2, hN2, hbk2⟩ := hq2
  have hc2 : S2 c = _ := (hfb2.2.2.2 c (by omega)).trans hc1
  change Run _ _ _ _ _ _ [.ref (c + 1), .ref c] (K2, R2, L2, S2, c + 4) _
  refine q_putR (x := some (c + 1)) (pc2 := 15) d_De_init_12 rfl k_De_12 rfl hc2 (by first | exact Or.inl rfl | exact Or.inr ⟨rfl, rfl⟩) (fun R3 hR3 => ?_)
  refine r_aload_n (x := some c) (pc2 := 16) d_De_init_15 rfl rfl ?_
  refine r_bipush (v := nI 12) (pc2 := 18) d_De_init_16 rfl (by decide) ?_
  refine r_anewarray (kd := 15) (ci := 3) (len := 12) (pc2 := 21) (ac1 := 234) (az1 := 1506) d_De_init_18 rfl (by decide) (by decide) rfl k_De_18 (nI_toInt (by decide)) (by omega) (by omega) (by omega) ?_
  obtain ⟨K4, R4, L4, S4, hal4, hzr4, e1_, e2_, e3_, e4_⟩ : ∃ Ka Ra La Sa, AL 15 12 (c + 4) K2 R3 L2 S2 Ka Ra La Sa ∧ ZR (c + 4) Ka Ra ∧ Ka = z1 K2 (c + 4) 0 ∧ Ra = z1 R3 (c + 4) none ∧ La = z1 L2 (c + 4) 0 ∧ Sa = s1 S2 (c + 4) (15, 12) := ⟨_, _, _, _, al_z, zr_z, rfl, rfl, rfl, rfl⟩
  show Run _ _ _ _ _ _ _ (z1 K2 (c + 4) 0, z1 R3 (c + 4) none, z1 L2 (c + 4) 0, s1 S2 (c + 4) (15, 12), c + 5) _
  rw [← e1_, ← e2_, ← e3_, ← e4_]
  clear e1_ e2_ e3_ e4_
  have hN4 := hal4.n hN2
  have hc4 : S4 c = _ := (hal4.2.2.2.1 c (by omega)).trans hc2
  refine q_putR (x := some (c + 4)) (pc2 := 24) d_De_init_21 rfl k_De_20 rfl hc4 (by first | exact Or.inl rfl | exact Or.inr ⟨rfl, rfl⟩) (fun R5 hR5 => ?_)
  refine r_aload_n (x := some c) (pc2 := 25) d_De_init_24 rfl rfl ?_
  refine r_iconst (v := nI 0) (pc2 := 26) d_De_init_25 rfl (by decide) ?_
  refine q_putI (pc2 := 29) d_De_init_26 rfl k_De_24 (Or.inl rfl) hc4 (by first | exact Or.inl rfl | exact Or.inr ⟨rfl, rfl⟩) (fun I6 hI6 => ?_)
  refine r_aload_n (x := some c) (pc2 := 30) d_De_init_29 rfl rfl ?_
  refine r_new (ci := 9) (pc2 := 33) (ac1 := 233) (az1 := 1500) d_De_init_30 rfl (by decide) k_De_28 nw_St iw_St (by omega) (by show 6 + 1500 ≤ _; omega) ?_
  obtain ⟨K7, R7, L7, S7, hal7, hzr7, e1_, e2_, e3_, e4_⟩ : ∃ Ka Ra La Sa, AL 9 0 (c + 5) I6 R5 L4 S4 Ka Ra La Sa ∧ ZR (c + 5) Ka Ra ∧ Ka = z1 I6 (c + 5) 0 ∧ Ra = z1 R5 (c + 5) none ∧ La = z1 L4 (c + 5) 0 ∧ Sa = s1 S4 (c + 5) (9, 0) := ⟨_, _, _, _, al_z, zr_z, rfl, rfl, rfl, rfl⟩
  show Run _ _ _ _ _ _ _ (z1 I6 (c + 5) 0, z1 R5 (c + 5) none, z1 L4 (c + 5) 0, s1 S4 (c + 5) (9, 0), c + 6) _
  rw [← e1_, ← e2_, ← e3_, ← e4_]
  clear e1_ e2_ e3_ e4_
  have hN7 := hal7.n hN4
  have hc7 : S7 c = _ := (hal7.2.2.2.1 c (by omega)).trans hc4
  refine r_dup (pc2 := 34) d_De_init_33 rfl rfl ?_
  refine r_calli (M2 := mi_St_init) (pc2 := 37) (as := []) (rest := [.ref (c + 5), .ref c]) d_De_init_34 rfl k_De_30 cm_St_init ci_St_init rfl rfl rfl rfl (Nat.le_of_ble_eq_true rfl) (c_St_init (I := K7) (R := R7) (L := L7) (sh := S7) (c := c + 5) hal7.2.2.2.2 hN7 (d := d - 1) (by omega)) (d2 := d - 1) (ac1 := 228) (az1 := 1380) (by omega) (by omega) (by omega) (fun r2 h2 hq2 => ?_)
  obtain ⟨rfl, K8, R8, L8, S8, rfl, hfb8, hN8, hbk8⟩ := hq2
  have hc8 : S8 c = _ := (hfb8.2.2.2 c (by omega)).trans hc7
  change Run _ _ _ _ _ _ [.ref (c + 5), .ref c] (K8, R8, L8, S8, c + 11) _
  refine q_putR (x := some (c + 5)) (pc2 := 40) d_De_init_37 rfl k_De_31 rfl hc8 (by first | exact Or.inl rfl | exact Or.inr ⟨rfl, rfl⟩) (fun R9 hR9 => ?_)
  refine r_aload_n (x := some c) (pc2 := 41) d_De_init_40 rfl rfl ?_
  refine r_iconst (v := nI 0) (pc2 := 42) d_De_init_41 rfl (by decide) ?_
  refine q_putI (pc2 := 45) d_De_init_42 rfl k_De_35 (Or.inl rfl) hc8 (by first | exact Or.inl rfl | exact Or.inr ⟨rfl, rfl⟩) (fun I10 hI10 => ?_)
  refine r_aload_n (x := some c) (pc2 := 46) d_De_init_45 rfl rfl ?_
  refine r_iconst (v := nI 1) (pc2 := 47) d_De_init_46 rfl (by decide) ?_
  refine q_putI (pc2 := 50) d_De_init_47 rfl k_De_38 (Or.inl rfl) hc8 (by first | exact Or.inl rfl | exact Or.inr ⟨rfl, rfl⟩) (fun I11 hI11 => ?_)
  refine r_aload_n (x := some c) (pc2 := 51) d_De_init_50 rfl rfl ?_
  refine r_iconst (v := nI 0) (pc2 := 52) d_De_init_51 rfl (by decide) ?_
  refine q_putI (pc2 := 55) d_De_init_52 rfl k_De_41 (Or.inl rfl) hc8 (by first | exact Or.inl rfl | exact Or.inr ⟨rfl, rfl⟩) (fun I12 hI12 => ?_)
  refine r_iconst (v := nI 0) (pc2 := 56) d_De_init_55 rfl (by decide) ?_
  refine r_istore_n (pc2 := 57) d_De_init_56 rfl rfl (Nat.le_of_ble_eq_true rfl) ?_
  refine Run.sub (l2 := [(0, .ref c), (1, .int (nI 0))]) ⟨rfl, rfl, trivial⟩ ?_
  refine l_De_init (K := I12) (R := R9) (L := L8) (S := S8) hc8 ((hfb8.2.2.2 _ (by omega)).trans ((hal7.2.2.2.1 _ (by omega)).trans (hal4.2.2.2.2))) ((rd_nk hR9 (by decide)).trans ((hfb8.2.1 _ _ (by omega)).trans ((hal7.2.1 _ _ (by omega)).trans (rd_eq hR5)))) (by omega) (fun KL RL LL SL hF => ?_) 12 0 I12 R9 L8 S8 rfl (by omega) ⟨fun _ _ _ => rfl, fun _ _ _ _ => rfl, fun _ _ _ => rfl, fun _ _ => rfl, hN8, fun r hr => absurd hr (Nat.not_lt_zero _)⟩
  have hcL : SL c = _ := (hF.2.2.2.1 c (by omega)).trans hc8
  refine Run.ret none d_De_init_82 rfl ?_
  exact ⟨rfl, _, _, _, _, rfl, ⟨fun a j q => (hF.1 _ _ (by omega)).trans ((rd_ne hI12 (by omega)).trans ((rd_ne hI11 (by omega)).trans ((rd_ne hI10 (by omega)).trans ((hfb8.1 _ _ (by omega)).trans ((hal7.1 _ _ (by omega)).trans ((rd_ne hI6 (by omega)).trans ((hal4.1 _ _ (by omega)).trans ((hfb2.1 _ _ (by omega)).trans (hal1.1 _ _ (by omega)))))))))), fun a j q => (hF.2.1 _ _ (by omega) (by omega)).trans ((rd_ne hR9 (by omega)).trans ((hfb8.2.1 _ _ (by omega)).trans ((hal7.2.1 _ _ (by omega)).trans ((rd_ne hR5 (by omega)).trans ((hal4.2.1 _ _ (by omega)).trans ((rd_ne hR3 (by omega)).trans ((hfb2.2.1 _ _ (by omega)).trans (hal1.2.1 _ _ (by omega))))))))), fun a j q => (hF.2.2.1 _ _ (by omega)).trans ((hfb8.2.2.1 _ _ (by omega)).trans ((hal7.2.2.1 _ _ (by omega)).trans ((hal4.2.2.1 _ _ (by omega)).trans ((hfb2.2.2.1 _ _ (by omega)).trans (hal1.2.2.1 _ _ (by omega)))))), fun a q => (hF.2.2.2.1 _ (by omega)).trans ((hfb8.2.2.2 _ (by omega)).trans ((hal7.2.2.2.1 _ (by omega)).trans ((hal4.2.2.2.1 _ (by omega)).trans ((hfb2.2.2.2 _ (by omega)).trans (hal1.2.2.2.1 _ (by omega))))))⟩, hF.2.2.2.2.1, ⟨hbk2.fr (fun a j x y => (hF.1 _ _ (by omega)).trans ((rd_ne hI12 (by omega)).trans ((rd_ne hI11 (by omega)).trans ((rd_ne hI10 (by omega)).trans ((hfb8.1 _ _ (by omega)).trans ((hal7.1 _ _ (by omega)).trans ((rd_ne hI6 (by omega)).trans (hal4.1 _ _ (by omega))))))))) (fun a j x y => (hF.2.1 _ _ (by omega) (by omega)).trans ((rd_ne hR9 (by omega)).trans ((hfb8.2.1 _ _ (by omega)).trans ((hal7.2.1 _ _ (by omega)).trans ((rd_ne hR5 (by omega)).trans ((hal4.2.1 _ _ (by omega)).trans (rd_ne hR3 (by omega)))))))) (fun a x y => (hF.2.2.2.1 _ (by omega)).trans ((hfb8.2.2.2 _ (by omega)).trans ((hal7.2.2.2.1 _ (by omega)).trans (hal4.2.2.2.1 _ (by omega))))), hbk8.fr (fun a j x y => (hF.1 _ _ (by omega)).trans ((rd_ne hI12 (by omega)).trans ((rd_ne hI11 (by omega)).trans (rd_ne hI10 (by omega))))) (fun a j x y => (hF.2.1 _ _ (by omega) (by omega)).trans (rd_ne hR9 (by omega))) (fun a x y => hF.2.2.2.1 _ (by omega)), ⟨(hF.2.2.2.1 _ (by omega)).trans ((hfb8.2.2.2 _ (by omega)).trans ((hal7.2.2.2.1 _ (by omega)).trans ((hal4.2.2.2.1 _ (by omega)).trans ((hfb2.2.2.2 _ (by omega)).trans ((hal1.2.2.2.1 _ (by omega)).trans (hc0)))))), (hF.2.2.2.1 _ (by omega)).trans ((hfb8.2.2.2 _ (by omega)).trans ((hal7.2.2.2.1 _ (by omega)).trans (hal4.2.2.2.2)))⟩, ⟨(hF.2.1 _ _ (by omega) (by omega)).trans ((rd_nk hR9 (by decide)).trans ((hfb8.2.1 _ _ (by omega)).trans ((hal7.2.1 _ _ (by omega)).trans ((rd_nk hR5 (by decide)).trans ((hal4.2.1 _ _ (by omega)).trans (rd_eq hR3)))))), (hF.2.1 _ _ (by omega) (by omega)).trans ((rd_nk hR9 (by decide)).trans ((hfb8.2.1 _ _ (by omega)).trans ((hal7.2.1 _ _ (by omega)).trans (rd_eq hR5)))), (hF.2.1 _ _ (by omega) (by omega)).trans (rd_eq hR9)⟩, ⟨(hF.1 _ _ (by omega)).trans ((rd_nk hI12 (by decide)).trans ((rd_nk hI11 (by decide)).trans ((rd_nk hI10 (by decide)).trans ((hfb8.1 _ _ (by omega)).trans ((hal7.1 _ _ (by omega)).trans (rd_eq hI6)))))), (hF.1 _ _ (by omega)).trans ((rd_nk hI12 (by decide)).trans ((rd_nk hI11 (by decide)).trans (rd_eq hI10))), (hF.1 _ _ (by omega)).trans ((rd_nk hI12 (by decide)).trans (rd_eq hI11)), (hF.1 _ _ (by omega)).trans (rd_eq hI12)⟩, hF.2.2.2.2.2⟩⟩
