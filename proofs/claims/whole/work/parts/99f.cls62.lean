/-! THE REFERENCE: grown -/
theorem c_M_grown_0 {d : Nat} {I : Nat → Nat → Int32} {R : Nat → Nat → Option Nat} {L : Nat → Nat → Int64} {sh : Nat → Nat × Nat} {N : Nat} {A n0 m : Nat} (hA : sh A = (12, n0)) (hn : n0 ≤ 100000) (hm : m ≤ n0) : Me mi_M_grown d 0 0 [.ref A, .int (nI m)] (I, R, L, sh, N) (some (.ref A)) (I, R, L, sh, N) := by
  refine Mt.of pn_M (Nat.le_of_ble_eq_true rfl) ?_
  show Run mi_M_grown d 0 0 0 [(0, .ref A), (1, .int (nI m))] [] (I, R, L, sh, N) _
  refine r_iload_n (pc2 := 1) d_M_grown_0 rfl rfl ?_
  refine r_aload_n (x := some A) (pc2 := 2) d_M_grown_1 rfl rfl ?_
  refine r_alen (pc2 := 3) d_M_grown_2 rfl hA (by decide) (by decide) ?_
  refine q_icmp_gt (tgt := 8) (A := ((m : Nat) : Int)) (B := ((n0 : Nat) : Int)) (pc2 := 6) d_M_grown_3 rfl rfl (nI_toInt (by omega)) (nI_toInt (by omega)) (fun c1 => ?_) (fun c1 => ?_)
  · exfalso; omega
  · refine r_aload_n (x := some A) (pc2 := 7) d_M_grown_6 rfl rfl ?_
    refine Run.ret (some (rv (some A))) d_M_grown_7 ⟨_, rfl⟩ ?_
    exact ⟨rfl, rfl⟩
theorem l_M_grown {d : Nat} {R1 : Nat → Nat → Option Nat} {L1 : Nat → Nat → Int64} {sh1 : Nat → Nat × Nat} {I : Nat → Nat → Int32} {R : Nat → Nat → Option Nat} {L : Nat → Nat → Int64} {sh : Nat → Nat × Nat} {N : Nat} {A n0 m : Nat} (hA : sh1 A = (12, n0)) (hn : n0 ≤ 100000) (hm2 : m ≤ 100000) (hNn : sh1 N = (12, 2 * m)) (hne : A ≠ N) (hm : n0 < m) {Q : Option Value → HS → Prop} (hq : ∀ K, (∀ a j, a ≠ N → K a j = I a j) → (∀ j, j < n0 → K N j = I A j) → Q (some (.ref N)) (K, R1, L1, sh1, N + 1)) : ∀ (n_ : Nat) (i : Nat) (K0 : Nat → Nat → Int32), n0 - i = n_ → (∀ a j, a ≠ N → K0 a j = I a j) → (∀ j, j < i → K0 N j = I A j) → (i ≤ n0) → Run mi_M_grown d 0 0 16 [(0, .ref A), (1, .int (nI m)), (2, .ref N), (3, .int (nI i))] [] (K0, R1, L1, sh1, N + 1) Q := by
  intro n_
  induction n_ using Nat.strongRecOn with | ind n_ ih_ => ?_
  intro i K0 hn_ v0_ v1_ v2_
  refine r_iload_n (pc2 := 17) d_M_grown_16 rfl rfl ?_
  refine r_aload_n (x := some A) (pc2 := 18) d_M_grown_17 rfl rfl ?_
  refine r_alen (pc2 := 19) d_M_grown_18 rfl hA (by decide) (by decide) ?_
  refine q_icmp_ge (tgt := 34) (A := ((i : Nat) : Int)) (B := ((n0 : Nat) : Int)) (pc2 := 22) d_M_grown_19 rfl rfl (nI_toInt (by omega)) (nI_toInt (by omega)) (fun c1 => ?_) (fun c1 => ?_)
  · refine r_aload_n (x := some N) (pc2 := 35) d_M_grown_34 rfl rfl ?_
    refine Run.ret (some (rv (some N))) d_M_grown_35 ⟨_, rfl⟩ ?_
    rw [show i = n0 by omega] at v1_; exact hq K0 v0_ v1_
  · refine r_aload_n (x := some N) (pc2 := 23) d_M_grown_22 rfl rfl ?_
    refine r_iload_n (pc2 := 24) d_M_grown_23 rfl rfl ?_
    refine r_aload_n (x := some A) (pc2 := 25) d_M_grown_24 rfl rfl ?_
    refine r_iload_n (pc2 := 26) d_M_grown_25 rfl rfl ?_
    refine q_iaload (q := i) (x := K0 A i) (pc2 := 27) d_M_grown_26 rfl hA (nI_toInt (by omega)) (by omega) rfl ?_
    refine q_iastore (q := i) (pc2 := 28) d_M_grown_27 rfl hNn (nI_toInt (by omega)) (by omega) (fun I2 hI2 => ?_)
    refine q_iinc (b := 1) (pc2 := 31) d_M_grown_28 rfl rfl (by decide) (Nat.le_of_ble_eq_true rfl) ?_
    refine r_goto (tgt := 16) d_M_grown_31 rfl ?_
    refine Run.sub (l2 := [(0, .ref A), (1, .int (nI m)), (2, .ref N), (3, .int (nI (i + 1)))]) ⟨rfl, rfl, rfl, rfl, trivial⟩ ?_
    exact ih_ (n0 - (i + 1)) (by omega) (i + 1) I2 rfl (fun a j q => (rd_ne hI2 q).trans (v0_ a j q)) (fun j hj => by
      by_cases y : j = i
      · subst y; exact (rd_eq hI2).trans (v0_ A j hne)
      · exact (rd_nk hI2 y).trans (v1_ j (by omega))) (by omega)
theorem c_M_grown_1 {d : Nat} {I : Nat → Nat → Int32} {R : Nat → Nat → Option Nat} {L : Nat → Nat → Int64} {sh : Nat → Nat × Nat} {N : Nat} {A n0 m : Nat} (hA : sh A = (12, n0)) (hn : n0 ≤ 100000) (hm : n0 < m) (hm2 : m ≤ 100000) (hN : 781 ≤ N) (hA2 : A < N) : Mt mi_M_grown d 1 (2 * m) [.ref A, .int (nI m)] (I, R, L, sh, N) (fun x h2 => x = some (.ref N) ∧ ∃ K R1 L1 sh1, h2 = (K, R1, L1, sh1, N + 1) ∧ AL 12 (2 * m) N I R L sh K R1 L1 sh1 ∧ ∀ j, j < n0 → K N j = I A j) := by
  refine Mt.of pn_M (Nat.le_of_ble_eq_true rfl) ?_
  show Run mi_M_grown d 1 (2 * m) 0 [(0, .ref A), (1, .int (nI m))] [] (I, R, L, sh, N) _
  refine r_iload_n (pc2 := 1) d_M_grown_0 rfl rfl ?_
  refine r_aload_n (x := some A) (pc2 := 2) d_M_grown_1 rfl rfl ?_
  refine r_alen (pc2 := 3) d_M_grown_2 rfl hA (by decide) (by decide) ?_
  refine q_icmp_gt (tgt := 8) (A := ((m : Nat) : Int)) (B := ((n0 : Nat) : Int)) (pc2 := 6) d_M_grown_3 rfl rfl (nI_toInt (by omega)) (nI_toInt (by omega)) (fun c1 => ?_) (fun c1 => ?_)
  · refine r_iconst (v := nI 2) (pc2 := 9) d_M_grown_8 rfl (by decide) ?_
    refine r_iload_n (pc2 := 10) d_M_grown_9 rfl rfl ?_
    refine q_imulN (pc2 := 11) d_M_grown_10 rfl ?_
    refine r_newarray (at_ := .int) (len := 2 * m) (pc2 := 13) (ac1 := 0) (az1 := 0) d_M_grown_11 rfl (by decide) aw_int (nI_toInt (by omega)) (by omega) (by omega) (by omega) ?_
    obtain ⟨Kb, Rb, Lb, Sb, halb, hzrb, e1_, e2_, e3_, e4_⟩ : ∃ K R1 L1 S1, AL 12 (2 * m) (N) I R L sh K R1 L1 S1 ∧ ZR (N) K R1 ∧ K = z1 I (N) 0 ∧ R1 = z1 R (N) none ∧ L1 = z1 L (N) 0 ∧ S1 = s1 sh (N) (12, 2 * m) := ⟨_, _, _, _, al_z, zr_z, rfl, rfl, rfl, rfl⟩
    show Run _ _ _ _ _ _ _ (z1 I (N) 0, z1 R (N) none, z1 L (N) 0, s1 sh (N) (12, 2 * m), N + 1) _
    rw [← e1_, ← e2_, ← e3_, ← e4_]
    clear e1_ e2_ e3_ e4_
    refine r_astore_n (x := some N) (pc2 := 14) d_M_grown_13 rfl rfl (Nat.le_of_ble_eq_true rfl) ?_
    refine r_iconst (v := nI 0) (pc2 := 15) d_M_grown_14 rfl (by decide) ?_
    refine r_istore_n (pc2 := 16) d_M_grown_15 rfl rfl (Nat.le_of_ble_eq_true rfl) ?_
    refine Run.sub (l2 := [(0, .ref A), (1, .int (nI m)), (2, .ref N), (3, .int (nI 0))]) ⟨rfl, rfl, rfl, rfl, trivial⟩ ?_
    exact l_M_grown (I := Kb) (R := R) (L := L) (sh := sh) ((halb.2.2.2.1 A (by omega)).trans hA) hn hm2 halb.2.2.2.2 (by omega) hm (fun K h1 h2 => ⟨rfl, K, _, _, _, rfl, ⟨fun a j q => (h1 a j q).trans (halb.1 a j q), halb.2.1, halb.2.2.1, halb.2.2.2.1, halb.2.2.2.2⟩, fun j hj => (h2 j hj).trans (halb.1 A j (by omega))⟩) _ 0 Kb rfl (fun _ _ _ => rfl) (fun j hj => absurd hj (by omega)) (Nat.zero_le _)
  · exfalso; omega
