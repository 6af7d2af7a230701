/-! THE REFERENCE: an answer -/
/-- what is sound in the row g: nP persons, nF features, nt nodes -/
def WFF (G : Nat → Int32) (nF nt F : Nat) : Prop :=
  (1 ≤ (G (174 + 84 * F + 0)).toInt ∧ (G (174 + 84 * F + 0)).toInt ≤ 3) ∧ (0 ≤ (G (174 + 84 * F + 1)).toInt ∧ (G (174 + 84 * F + 1)).toInt ≤ 1) ∧ (0 ≤ (G (174 + 84 * F + 2)).toInt ∧ (G (174 + 84 * F + 2)).toInt ≤ 1) ∧ (0 ≤ (G (174 + 84 * F + 3)).toInt ∧ (G (174 + 84 * F + 3)).toInt ≤ 3) ∧
  (0 ≤ (G (174 + 84 * F + 4)).toInt ∧ (G (174 + 84 * F + 4)).toInt ≤ 6) ∧ (0 ≤ (G (174 + 84 * F + 5)).toInt ∧ (G (174 + 84 * F + 5)).toInt ≤ 3) ∧ (0 ≤ (G (174 + 84 * F + 6)).toInt ∧ (G (174 + 84 * F + 6)).toInt ≤ 8) ∧ (-1 ≤ (G (174 + 84 * F + 7)).toInt ∧ (G (174 + 84 * F + 7)).toInt ≤ 3) ∧
  (0 ≤ (G (174 + 84 * F + 8)).toInt ∧ (G (174 + 84 * F + 8)).toInt ≤ 999) ∧ (0 ≤ (G (174 + 84 * F + 9)).toInt ∧ (G (174 + 84 * F + 9)).toInt ≤ 999) ∧
  (∀ n : Nat, (n : Int) < (G (174 + 84 * F + 5)).toInt → (0 ≤ (G (174 + 84 * F + (14 + 2 * n))).toInt ∧ (G (174 + 84 * F + (14 + 2 * n))).toInt < nF) ∧ 0 ≤ (G (174 + 84 * F + (14 + 2 * n + 1))).toInt ∧ (G (174 + 84 * F + (14 + 2 * n + 1))).toInt ≤ 3) ∧
  (∀ r : Nat, (r : Int) < (G (174 + 84 * F + 4)).toInt → (0 ≤ (G (174 + 84 * F + 60 + 4 * r + 0)).toInt ∧ (G (174 + 84 * F + 60 + 4 * r + 0)).toInt < nt) ∧ ((1000 ≤ (G (174 + 84 * F + 60 + 4 * r + 1)).toInt ∧ (G (174 + 84 * F + 60 + 4 * r + 1)).toInt ≤ 1003) ∨ (0 ≤ (G (174 + 84 * F + 60 + 4 * r + 1)).toInt ∧ (G (174 + 84 * F + 60 + 4 * r + 1)).toInt ≤ 333)) ∧
    (0 ≤ (G (174 + 84 * F + 60 + 4 * r + 2)).toInt ∧ (G (174 + 84 * F + 60 + 4 * r + 2)).toInt ≤ 333) ∧ (0 ≤ (G (174 + 84 * F + 60 + 4 * r + 3)).toInt ∧ (G (174 + 84 * F + 60 + 4 * r + 3)).toInt ≤ 333)) ∧
  (∀ p : Nat, p < 24 → 0 ≤ (G (174 + 84 * F + (36 + p))).toInt ∧ (G (174 + 84 * F + (36 + p))).toInt ≤ 3) ∧
  (∀ k : Nat, (k : Int) < (G (174 + 84 * F + 6)).toInt → 0 ≤ (G (174 + 84 * F + (20 + 2 * k + 1))).toInt ∧ (G (174 + 84 * F + (20 + 2 * k + 1))).toInt ≤ 3)
def WFA (G : Nat → Int32) (nP nF nt : Nat) : Prop := G 0 = nI nP ∧ nP ≤ 24 ∧ G 1 = nI nF ∧ nF ≤ 12 ∧ (∀ F, F < nF → WFF G nF nt F) ∧ ∀ p, p < nP → (0 ≤ (G (6 + 2 * p + 1)).toInt ∧ (G (6 + 2 * p + 1)).toInt ≤ 9999) ∧ 0 ≤ (G (6 + 2 * p)).toInt ∧ (G (6 + 2 * p)).toInt ≤ 999999
/-- where the scratch of an answer lies: all else stays -/
def FrA (I J : Nat → Nat → Int32) : Prop := ∀ a j, a ≠ 772 → a ≠ 773 → a ≠ 774 → (a = 761 → j ≠ 15 ∧ j ≠ 16 ∧ j ≠ 20) → J a j = I a j
theorem FrA.row {I J : Nat → Nat → Int32} (h : FrA I J) {a : Nat} (h1 : a ≠ 761) (h2 : a ≠ 772) (h3 : a ≠ 773) (h4 : a ≠ 774) : J a = I a := funext fun j => h a j h2 h3 h4 (fun e => absurd e h1)
theorem FrA.rf {I : Nat → Nat → Int32} : FrA I I := fun _ _ _ _ _ _ => rfl
theorem FrA.tr {I J K : Nat → Nat → Int32} (h : FrA I J) (h2 : FrA J K) : FrA I K := fun a j h3 h4 h5 h6 => (h2 a j h3 h4 h5 h6).trans (h a j h3 h4 h5 h6)
theorem FrA.put {I J K : Nat → Nat → Int32} {a j : Nat} {v : Int32} (h : FrA I J) (e : K = u2 J a j v) (hc : a = 772 ∨ a = 773 ∨ a = 774 ∨ (a = 761 ∧ (j = 15 ∨ j = 16 ∨ j = 20))) : FrA I K := by
  intro b i h1 h2 h3 h4
  subst e
  rw [← h b i h1 h2 h3 h4]
  unfold u2
  rw [if_neg (fun q => ?_)]
  rcases hc with hc | hc | hc | hc
  · exact h1 (q.1.trans hc)
  · exact h2 (q.1.trans hc)
  · exact h3 (q.1.trans hc)
  · have := h4 (q.1.trans hc.1)
    omega
/-- what is worked out already is right -/
def MEM (A : Nat → Int32 × Int32 × Int32) (nF : Nat) (J : Nat → Nat → Int32) : Prop := ∀ F, F < nF → bt (J 761 20) F = true → J 772 F = (A F).1 ∧ J 773 F = (A F).2.1 ∧ J 774 F = (A F).2.2
def WQ (A : Nat → Int32 × Int32 × Int32) (nF F : Nat) (I J : Nat → Nat → Int32) (R : Nat → Nat → Option Nat) (L : Nat → Nat → Int64) (sh : Nat → Nat × Nat) (N : Nat) : Option Value → HS → Prop :=
  fun r h' => ∃ K, h' = (K, R, L, sh, N) ∧ r = some (.int (A F).1) ∧ FrA I K ∧ MEM A nF K ∧ K 761 15 = (A F).2.1 ∧ K 761 16 = (A F).2.2 ∧ ∀ b, b < 32 → bt (J 761 20) b = true → bt (K 761 20) b = true
def AQ (A : Nat → Int32 × Int32 × Int32) (nF F : Nat) (I J : Nat → Nat → Int32) (R : Nat → Nat → Option Nat) (L : Nat → Nat → Int64) (sh : Nat → Nat × Nat) (N : Nat) : Option Value → HS → Prop :=
  fun r h' => ∃ K, h' = (K, R, L, sh, N) ∧ r = some (.int (A F).1) ∧ FrA I K ∧ MEM A nF K ∧ bt (K 761 20) F = true ∧ ∀ b, b < 32 → bt (J 761 20) b = true → bt (K 761 20) b = true
theorem WQ.mk {A : Nat → Int32 × Int32 × Int32} {nF F : Nat} {I J J0 K K1 : Nat → Nat → Int32} {R : Nat → Nat → Option Nat} {L : Nat → Nat → Int64} {sh : Nat → Nat × Nat} {N : Nat} {v b c : Int32} (e : A F = (v, b, c)) (hf : FrA I J) (hm : MEM A nF J) (h1 : K1 = u2 J 761 15 b) (h2 : K = u2 K1 761 16 c) (hb : ∀ b, b < 32 → bt (J0 761 20) b = true → bt (J 761 20) b = true) : WQ A nF F I J0 R L sh N (some (.int v)) (K, R, L, sh, N) := by
  have e20 : K 761 20 = J 761 20 := (rd_nk h2 (by decide)).trans (rd_nk h1 (by decide))
  have er : ∀ a j, a ≠ 761 → K a j = J a j := fun a j ha => (rd_ne h2 ha).trans (rd_ne h1 ha)
  refine ⟨K, rfl, by rw [e], (hf.put h1 (by omega)).put h2 (by omega), fun F hF hbt => ?_, ?_, ?_, fun b hb32 hbt => ?_⟩
  · rw [e20] at hbt
    rw [er 772 F (by decide), er 773 F (by decide), er 774 F (by decide)]
    exact hm F hF hbt
  · rw [e, rd_nk h2 (by decide), rd_eq h1]
  · rw [e, rd_eq h2]
  · rw [e20]; exact hb b hb32 hbt
theorem c_M_isIt {d : Nat} {I : Nat → Nat → Int32} {R : Nat → Nat → Option Nat} {L : Nat → Nat → Int64} {sh : Nat → Nat × Nat} {N : Nat} (hS : ShOK sh) (hR : RfOK R) {v b c : Int32} : Me mi_M_isIt d 0 0 [.ref 761, .int v, .int b, .int c] (I, R, L, sh, N) (some (.int v)) (u2 (u2 I 761 15 b) 761 16 c, R, L, sh, N) := by
  refine Mt.of pn_M (Nat.le_of_ble_eq_true rfl) ?_
  show Run mi_M_isIt d 0 0 0 [(0, .ref 761), (1, .int v), (2, .int b), (3, .int c)] [] (I, R, L, sh, N) _
  refine r_aload_n (x := some 761) (pc2 := 1) d_M_isIt_0 rfl rfl ?_
  refine r_iload_n (pc2 := 2) d_M_isIt_1 rfl rfl ?_
  refine q_putI (pc2 := 5) d_M_isIt_2 rfl k_M_164 (Or.inl rfl) (sh_761 hS) (Or.inl rfl) (fun I1 hI1 => ?_)
  refine r_aload_n (x := some 761) (pc2 := 6) d_M_isIt_5 rfl rfl ?_
  refine r_iload_n (pc2 := 7) d_M_isIt_6 rfl rfl ?_
  refine q_putI (pc2 := 10) d_M_isIt_7 rfl k_M_167 (Or.inl rfl) (sh_761 hS) (Or.inl rfl) (fun I2 hI2 => ?_)
  refine r_iload_n (pc2 := 11) d_M_isIt_10 rfl rfl ?_
  refine Run.ret (some (.int v)) d_M_isIt_11 ⟨_, rfl⟩ ?_
  exact ⟨rfl, by rw [hI2, hI1]⟩
theorem bkt_rng (s k : Int32) : 0 ≤ (bkt s k).toInt ∧ (bkt s k).toInt < 1000 := by
  unfold bkt bk1
  generalize bkz (bkz (bkz (k + nI 101 * s) * nI 73244475) * nI 73244475) = z
  have h : ∃ m : Nat, m < 2 ^ 31 ∧ (z.toUInt32 >>> ((nI 1).toUInt32 &&& Int32.toUInt32 31)).toInt32 = nI m := by
    refine ⟨z.toBitVec.toNat / 2 ^ 1, ?_, ?_⟩
    · have := z.toBitVec.isLt; omega
    · have e := pk_ushr z (nI 1) 1 rfl
      have e2 := pk_tn (n := z.toBitVec.toNat / 2 ^ 1) (by have := z.toBitVec.isLt; omega)
      exact Int32.toBitVec_inj.mp (BitVec.eq_of_toNat_eq (e.trans e2.symm))
  obtain ⟨m, hm, e⟩ := h
  rw [e, pk_rem hm (by decide) (by decide), nI_toInt (by omega)]
  omega
theorem c_M_shared {d : Nat} {I : Nat → Nat → Int32} {R : Nat → Nat → Option Nat} {L : Nat → Nat → Int64} {sh : Nat → Nat × Nat} {N : Nat} (hS : ShOK sh) (hR : RfOK R) {F r : Nat} (hF : F < 12) (hr : r < 6) {key : Int32} (hq : ∀ k, 1 ≤ k → k < 4 → 0 ≤ (I 762 (174 + 84 * F + 60 + 4 * r + k)).toInt ∧ (I 762 (174 + 84 * F + 60 + 4 * r + k)).toInt ≤ 333) (hd : 1 ≤ d) : Me mi_M_shared d 0 0 [.ref 761, .int (nI F), .int (nI r), .int key] (I, R, L, sh, N) (some (.int (shV (bkt (nI (F + 1)) key).toInt (I 762 (174 + 84 * F + 60 + 4 * r + 1)) (I 762 (174 + 84 * F + 60 + 4 * r + 2)) (I 762 (174 + 84 * F + 60 + 4 * r + 3))))) (I, R, L, sh, N) := by
  refine Mt.of pn_M (Nat.le_of_ble_eq_true rfl) ?_
  show Run mi_M_shared d 0 0 0 [(0, .ref 761), (1, .int (nI F)), (2, .int (nI r)), (3, .int key)] [] (I, R, L, sh, N) _
  have hbr := bkt_rng (nI (F + 1)) key
  have hq1 := hq 1 (by omega) (by omega)
  have hq2 := hq 2 (by omega) (by omega)
  have hq3 := hq 3 (by omega) (by omega)
  refine r_iload_n (pc2 := 1) d_M_shared_0 rfl rfl ?_
  refine r_iconst (v := nI 1) (pc2 := 2) d_M_shared_1 rfl (by decide) ?_
  refine q_iaddN (pc2 := 3) d_M_shared_2 rfl ?_
  refine r_iload_n (pc2 := 4) d_M_shared_3 rfl rfl ?_
  refine q_calls (M2 := mi_M_bucketOf) (pc2 := 7) d_M_shared_4 rfl k_M_161 cm_M_bucketOf cs_M_bucketOf rfl rfl (Nat.le_of_ble_eq_true rfl) (c_M_bucketOf (s := nI (F + 1)) (k := key)) (d2 := d - 1) (by omega) (Nat.le_of_eq (Nat.zero_add _)) (Nat.le_of_eq (Nat.zero_add _)) ?_
  refine r_istore (pc2 := 9) d_M_shared_7 rfl (Nat.le_of_ble_eq_true rfl) ?_
  generalize hB : bkt (nI (F + 1)) key = B at hbr ⊢
  refine r_iconst (v := nI 1) (pc2 := 10) d_M_shared_9 rfl (by decide) ?_
  refine r_istore (pc2 := 12) d_M_shared_10 rfl (Nat.le_of_ble_eq_true rfl) ?_
  refine r_iload (pc2 := 14) d_M_shared_12 rfl rfl ?_
  refine r_iconst (v := nI 3) (pc2 := 15) d_M_shared_14 rfl (by decide) ?_
  refine q_icmp_gt (tgt := 64) (A := (1 : Int)) (B := (3 : Int)) (pc2 := 18) d_M_shared_15 rfl rfl (nI_toInt (by omega)) (nI_toInt (by omega)) (fun c1 => ?_) (fun c1 => ?_)
  · exfalso; omega
  refine r_sipush (v := nI 333) (pc2 := 21) d_M_shared_18 rfl (by decide) ?_
  refine r_iload (pc2 := 23) d_M_shared_21 rfl rfl ?_
  refine r_iconst (v := nI 1) (pc2 := 24) d_M_shared_23 rfl (by decide) ?_
  refine q_isubN (pc2 := 25) d_M_shared_24 rfl (by omega) ?_
  refine q_imulN (pc2 := 26) d_M_shared_25 rfl ?_
  refine r_istore (pc2 := 28) d_M_shared_26 rfl (Nat.le_of_ble_eq_true rfl) ?_
  refine r_iload (pc2 := 30) d_M_shared_28 rfl rfl ?_
  refine r_iload (pc2 := 32) d_M_shared_30 rfl rfl ?_
  refine q_icmp_lt (tgt := 58) (A := B.toInt) (B := (0 : Int)) (pc2 := 35) d_M_shared_32 rfl rfl (rfl) (nI_toInt (by omega)) (fun c2 => ?_) (fun c2 => ?_)
  · refine q_iinc (b := 1) (pc2 := 61) d_M_shared_58 rfl rfl (by decide) (Nat.le_of_ble_eq_true rfl) ?_
    refine r_goto (tgt := 12) d_M_shared_61 rfl ?_
    refine r_iload (pc2 := 14) d_M_shared_12 rfl rfl ?_
    refine r_iconst (v := nI 3) (pc2 := 15) d_M_shared_14 rfl (by decide) ?_
    refine q_icmp_gt (tgt := 64) (A := (2 : Int)) (B := (3 : Int)) (pc2 := 18) d_M_shared_15 rfl rfl (nI_toInt (by omega)) (nI_toInt (by omega)) (fun c3 => ?_) (fun c3 => ?_)
    · exfalso; omega
    refine r_sipush (v := nI 333) (pc2 := 21) d_M_shared_18 rfl (by decide) ?_
    refine r_iload (pc2 := 23) d_M_shared_21 rfl rfl ?_
    refine r_iconst (v := nI 1) (pc2 := 24) d_M_shared_23 rfl (by decide) ?_
    refine q_isubN (pc2 := 25) d_M_shared_24 rfl (by omega) ?_
    refine q_imulN (pc2 := 26) d_M_shared_25 rfl ?_
    refine r_istore (pc2 := 28) d_M_shared_26 rfl (Nat.le_of_ble_eq_true rfl) ?_
    refine r_iload (pc2 := 30) d_M_shared_28 rfl rfl ?_
    refine r_iload (pc2 := 32) d_M_shared_30 rfl rfl ?_
    refine q_icmp_lt (tgt := 58) (A := B.toInt) (B := (333 : Int)) (pc2 := 35) d_M_shared_32 rfl rfl (rfl) (nI_toInt (by omega)) (fun c4 => ?_) (fun c4 => ?_)
    · refine q_iinc (b := 1) (pc2 := 61) d_M_shared_58 rfl rfl (by decide) (Nat.le_of_ble_eq_true rfl) ?_
      refine r_goto (tgt := 12) d_M_shared_61 rfl ?_
      refine r_iload (pc2 := 14) d_M_shared_12 rfl rfl ?_
      refine r_iconst (v := nI 3) (pc2 := 15) d_M_shared_14 rfl (by decide) ?_
      refine q_icmp_gt (tgt := 64) (A := (3 : Int)) (B := (3 : Int)) (pc2 := 18) d_M_shared_15 rfl rfl (nI_toInt (by omega)) (nI_toInt (by omega)) (fun c5 => ?_) (fun c5 => ?_)
      · exfalso; omega
      refine r_sipush (v := nI 333) (pc2 := 21) d_M_shared_18 rfl (by decide) ?_
      refine r_iload (pc2 := 23) d_M_shared_21 rfl rfl ?_
      refine r_iconst (v := nI 1) (pc2 := 24) d_M_shared_23 rfl (by decide) ?_
      refine q_isubN (pc2 := 25) d_M_shared_24 rfl (by omega) ?_
      refine q_imulN (pc2 := 26) d_M_shared_25 rfl ?_
      refine r_istore (pc2 := 28) d_M_shared_26 rfl (Nat.le_of_ble_eq_true rfl) ?_
      refine r_iload (pc2 := 30) d_M_shared_28 rfl rfl ?_
      refine r_iload (pc2 := 32) d_M_shared_30 rfl rfl ?_
      refine q_icmp_lt (tgt := 58) (A := B.toInt) (B := (666 : Int)) (pc2 := 35) d_M_shared_32 rfl rfl (rfl) (nI_toInt (by omega)) (fun c6 => ?_) (fun c6 => ?_)
      · refine q_iinc (b := 1) (pc2 := 61) d_M_shared_58 rfl rfl (by decide) (Nat.le_of_ble_eq_true rfl) ?_
        refine r_goto (tgt := 12) d_M_shared_61 rfl ?_
        refine r_iload (pc2 := 14) d_M_shared_12 rfl rfl ?_
        refine r_iconst (v := nI 3) (pc2 := 15) d_M_shared_14 rfl (by decide) ?_
        refine q_icmp_gt (tgt := 64) (A := (4 : Int)) (B := (3 : Int)) (pc2 := 18) d_M_shared_15 rfl rfl (nI_toInt (by omega)) (nI_toInt (by omega)) (fun c7 => ?_) (fun c7 => ?_)
        rotate_left
        · exfalso; omega
        refine r_iconst (v := nI 0) (pc2 := 65) d_M_shared_64 rfl (by decide) ?_
        refine Run.ret (some (.int (nI 0))) d_M_shared_65 ⟨_, rfl⟩ ?_
        exact ⟨congrArg (fun z => some (Value.int z)) (by unfold shV; rw [if_neg (by omega), if_neg (by omega), if_neg (by omega)]; rfl), rfl⟩
      · refine r_iload (pc2 := 37) d_M_shared_35 rfl rfl ?_
        refine r_iload (pc2 := 39) d_M_shared_37 rfl rfl ?_
        refine r_aload_n (x := some 761) (pc2 := 40) d_M_shared_39 rfl rfl ?_
        refine q_getR (x := some 762) (pc2 := 43) d_M_shared_40 rfl k_M_9 rfl (sh_761 hS) (rf_761_0 hR) ?_
        refine r_iload_n (pc2 := 44) d_M_shared_43 rfl rfl ?_
        refine r_iload_n (pc2 := 45) d_M_shared_44 rfl rfl ?_
        refine r_iload (pc2 := 47) d_M_shared_45 rfl rfl ?_
        refine q_calls (M2 := mi_M_ruleAt) (pc2 := 50) d_M_shared_47 rfl k_M_80 cm_M_ruleAt cs_M_ruleAt rfl rfl (Nat.le_of_ble_eq_true rfl) (c_M_ruleAt (F := F) (r := r) (k := 3)) (d2 := d - 1) (by omega) (Nat.le_of_eq (Nat.zero_add _)) (Nat.le_of_eq (Nat.zero_add _)) ?_
        refine q_iaload (q := 174 + 84 * F + 60 + 4 * r + 3) (x := I 762 (174 + 84 * F + 60 + 4 * r + 3)) (pc2 := 51) d_M_shared_50 rfl (sh_762 hS) (nI_toInt (by omega)) (by omega) rfl ?_
        refine q_iaddV (pc2 := 52) d_M_shared_51 rfl (A := (666 : Int)) (B := (I 762 (174 + 84 * F + 60 + 4 * r + 3)).toInt) (nI_toInt (by omega)) (rfl) (by constructor <;> omega) (fun y8 ey8 hy8 => ?_)
        refine q_icmp_ge (tgt := 58) (A := B.toInt) (B := (666 : Int) + (I 762 (174 + 84 * F + 60 + 4 * r + 3)).toInt) (pc2 := 55) d_M_shared_52 rfl rfl (rfl) (hy8) (fun c9 => ?_) (fun c9 => ?_)
        · refine q_iinc (b := 1) (pc2 := 61) d_M_shared_58 rfl rfl (by decide) (Nat.le_of_ble_eq_true rfl) ?_
          refine r_goto (tgt := 12) d_M_shared_61 rfl ?_
          refine r_iload (pc2 := 14) d_M_shared_12 rfl rfl ?_
          refine r_iconst (v := nI 3) (pc2 := 15) d_M_shared_14 rfl (by decide) ?_
          refine q_icmp_gt (tgt := 64) (A := (4 : Int)) (B := (3 : Int)) (pc2 := 18) d_M_shared_15 rfl rfl (nI_toInt (by omega)) (nI_toInt (by omega)) (fun c10 => ?_) (fun c10 => ?_)
          rotate_left
          · exfalso; omega
          refine r_iconst (v := nI 0) (pc2 := 65) d_M_shared_64 rfl (by decide) ?_
          refine Run.ret (some (.int (nI 0))) d_M_shared_65 ⟨_, rfl⟩ ?_
          exact ⟨congrArg (fun z => some (Value.int z)) (by unfold shV; rw [if_neg (by omega), if_neg (by omega), if_neg (by omega)]; rfl), rfl⟩
        · refine r_iload (pc2 := 57) d_M_shared_55 rfl rfl ?_
          refine Run.ret (some (.int (nI 3))) d_M_shared_57 ⟨_, rfl⟩ ?_
          exact ⟨congrArg (fun z => some (Value.int z)) (by unfold shV; rw [if_neg (by omega), if_neg (by omega), if_pos (by omega)]; rfl), rfl⟩
    · refine r_iload (pc2 := 37) d_M_shared_35 rfl rfl ?_
      refine r_iload (pc2 := 39) d_M_shared_37 rfl rfl ?_
      refine r_aload_n (x := some 761) (pc2 := 40) d_M_shared_39 rfl rfl ?_
      refine q_getR (x := some 762) (pc2 := 43) d_M_shared_40 rfl k_M_9 rfl (sh_761 hS) (rf_761_0 hR) ?_
      refine r_iload_n (pc2 := 44) d_M_shared_43 rfl rfl ?_
      refine r_iload_n (pc2 := 45) d_M_shared_44 rfl rfl ?_
      refine r_iload (pc2 := 47) d_M_shared_45 rfl rfl ?_
      refine q_calls (M2 := mi_M_ruleAt) (pc2 := 50) d_M_shared_47 rfl k_M_80 cm_M_ruleAt cs_M_ruleAt rfl rfl (Nat.le_of_ble_eq_true rfl) (c_M_ruleAt (F := F) (r := r) (k := 2)) (d2 := d - 1) (by omega) (Nat.le_of_eq (Nat.zero_add _)) (Nat.le_of_eq (Nat.zero_add _)) ?_
      refine q_iaload (q := 174 + 84 * F + 60 + 4 * r + 2) (x := I 762 (174 + 84 * F + 60 + 4 * r + 2)) (pc2 := 51) d_M_shared_50 rfl (sh_762 hS) (nI_toInt (by omega)) (by omega) rfl ?_
      refine q_iaddV (pc2 := 52) d_M_shared_51 rfl (A := (333 : Int)) (B := (I 762 (174 + 84 * F + 60 + 4 * r + 2)).toInt) (nI_toInt (by omega)) (rfl) (by constructor <;> omega) (fun y11 ey11 hy11 => ?_)
      refine q_icmp_ge (tgt := 58) (A := B.toInt) (B := (333 : Int) + (I 762 (174 + 84 * F + 60 + 4 * r + 2)).toInt) (pc2 := 55) d_M_shared_52 rfl rfl (rfl) (hy11) (fun c12 => ?_) (fun c12 => ?_)
      · refine q_iinc (b := 1) (pc2 := 61) d_M_shared_58 rfl rfl (by decide) (Nat.le_of_ble_eq_true rfl) ?_
        refine r_goto (tgt := 12) d_M_shared_61 rfl ?_
        refine r_iload (pc2 := 14) d_M_shared_12 rfl rfl ?_
        refine r_iconst (v := nI 3) (pc2 := 15) d_M_shared_14 rfl (by decide) ?_
        refine q_icmp_gt (tgt := 64) (A := (3 : Int)) (B := (3 : Int)) (pc2 := 18) d_M_shared_15 rfl rfl (nI_toInt (by omega)) (nI_toInt (by omega)) (fun c13 => ?_) (fun c13 => ?_)
        · exfalso; omega
        refine r_sipush (v := nI 333) (pc2 := 21) d_M_shared_18 rfl (by decide) ?_
        refine r_iload (pc2 := 23) d_M_shared_21 rfl rfl ?_
        refine r_iconst (v := nI 1) (pc2 := 24) d_M_shared_23 rfl (by decide) ?_
        refine q_isubN (pc2 := 25) d_M_shared_24 rfl (by omega) ?_
        refine q_imulN (pc2 := 26) d_M_shared_25 rfl ?_
        refine r_istore (pc2 := 28) d_M_shared_26 rfl (Nat.le_of_ble_eq_true rfl) ?_
        refine r_iload (pc2 := 30) d_M_shared_28 rfl rfl ?_
        refine r_iload (pc2 := 32) d_M_shared_30 rfl rfl ?_
        refine q_icmp_lt (tgt := 58) (A := B.toInt) (B := (666 : Int)) (pc2 := 35) d_M_shared_32 rfl rfl (rfl) (nI_toInt (by omega)) (fun c14 => ?_) (fun c14 => ?_)
        · refine q_iinc (b := 1) (pc2 := 61) d_M_shared_58 rfl rfl (by decide) (Nat.le_of_ble_eq_true rfl) ?_
          refine r_goto (tgt := 12) d_M_shared_61 rfl ?_
          refine r_iload (pc2 := 14) d_M_shared_12 rfl rfl ?_
          refine r_iconst (v := nI 3) (pc2 := 15) d_M_shared_14 rfl (by decide) ?_
          refine q_icmp_gt (tgt := 64) (A := (4 : Int)) (B := (3 : Int)) (pc2 := 18) d_M_shared_15 rfl rfl (nI_toInt (by omega)) (nI_toInt (by omega)) (fun c15 => ?_) (fun c15 => ?_)
          rotate_left
          · exfalso; omega
          refine r_iconst (v := nI 0) (pc2 := 65) d_M_shared_64 rfl (by decide) ?_
          refine Run.ret (some (.int (nI 0))) d_M_shared_65 ⟨_, rfl⟩ ?_
          exact ⟨congrArg (fun z => some (Value.int z)) (by unfold shV; rw [if_neg (by omega), if_neg (by omega), if_neg (by omega)]; rfl), rfl⟩
        · refine r_iload (pc2 := 37) d_M_shared_35 rfl rfl ?_
          refine r_iload (pc2 := 39) d_M_shared_37 rfl rfl ?_
          refine r_aload_n (x := some 761) (pc2 := 40) d_M_shared_39 rfl rfl ?_
          refine q_getR (x := some 762) (pc2 := 43) d_M_shared_40 rfl k_M_9 rfl (sh_761 hS) (rf_761_0 hR) ?_
          refine r_iload_n (pc2 := 44) d_M_shared_43 rfl rfl ?_
          refine r_iload_n (pc2 := 45) d_M_shared_44 rfl rfl ?_
          refine r_iload (pc2 := 47) d_M_shared_45 rfl rfl ?_
          refine q_calls (M2 := mi_M_ruleAt) (pc2 := 50) d_M_shared_47 rfl k_M_80 cm_M_ruleAt cs_M_ruleAt rfl rfl (Nat.le_of_ble_eq_true rfl) (c_M_ruleAt (F := F) (r := r) (k := 3)) (d2 := d - 1) (by omega) (Nat.le_of_eq (Nat.zero_add _)) (Nat.le_of_eq (Nat.zero_add _)) ?_
          refine q_iaload (q := 174 + 84 * F + 60 + 4 * r + 3) (x := I 762 (174 + 84 * F + 60 + 4 * r + 3)) (pc2 := 51) d_M_shared_50 rfl (sh_762 hS) (nI_toInt (by omega)) (by omega) rfl ?_
          refine q_iaddV (pc2 := 52) d_M_shared_51 rfl (A := (666 : Int)) (B := (I 762 (174 + 84 * F + 60 + 4 * r + 3)).toInt) (nI_toInt (by omega)) (rfl) (by constructor <;> omega) (fun y16 ey16 hy16 => ?_)
          refine q_icmp_ge (tgt := 58) (A := B.toInt) (B := (666 : Int) + (I 762 (174 + 84 * F + 60 + 4 * r + 3)).toInt) (pc2 := 55) d_M_shared_52 rfl rfl (rfl) (hy16) (fun c17 => ?_) (fun c17 => ?_)
          · refine q_iinc (b := 1) (pc2 := 61) d_M_shared_58 rfl rfl (by decide) (Nat.le_of_ble_eq_true rfl) ?_
            refine r_goto (tgt := 12) d_M_shared_61 rfl ?_
            refine r_iload (pc2 := 14) d_M_shared_12 rfl rfl ?_
            refine r_iconst (v := nI 3) (pc2 := 15) d_M_shared_14 rfl (by decide) ?_
            refine q_icmp_gt (tgt := 64) (A := (4 : Int)) (B := (3 : Int)) (pc2 := 18) d_M_shared_15 rfl rfl (nI_toInt (by omega)) (nI_toInt (by omega)) (fun c18 => ?_) (fun c18 => ?_)
            rotate_left
            · exfalso; omega
            refine r_iconst (v := nI 0) (pc2 := 65) d_M_shared_64 rfl (by decide) ?_
            refine Run.ret (some (.int (nI 0))) d_M_shared_65 ⟨_, rfl⟩ ?_
            exact ⟨congrArg (fun z => some (Value.int z)) (by unfold shV; rw [if_neg (by omega), if_neg (by omega), if_neg (by omega)]; rfl), rfl⟩
          · refine r_iload (pc2 := 57) d_M_shared_55 rfl rfl ?_
            refine Run.ret (some (.int (nI 3))) d_M_shared_57 ⟨_, rfl⟩ ?_
            exact ⟨congrArg (fun z => some (Value.int z)) (by unfold shV; rw [if_neg (by omega), if_neg (by omega), if_pos (by omega)]; rfl), rfl⟩
      · refine r_iload (pc2 := 57) d_M_shared_55 rfl rfl ?_
        refine Run.ret (some (.int (nI 2))) d_M_shared_57 ⟨_, rfl⟩ ?_
        exact ⟨congrArg (fun z => some (Value.int z)) (by unfold shV; rw [if_neg (by omega), if_pos (by omega)]; rfl), rfl⟩
  · refine r_iload (pc2 := 37) d_M_shared_35 rfl rfl ?_
    refine r_iload (pc2 := 39) d_M_shared_37 rfl rfl ?_
    refine r_aload_n (x := some 761) (pc2 := 40) d_M_shared_39 rfl rfl ?_
    refine q_getR (x := some 762) (pc2 := 43) d_M_shared_40 rfl k_M_9 rfl (sh_761 hS) (rf_761_0 hR) ?_
    refine r_iload_n (pc2 := 44) d_M_shared_43 rfl rfl ?_
    refine r_iload_n (pc2 := 45) d_M_shared_44 rfl rfl ?_
    refine r_iload (pc2 := 47) d_M_shared_45 rfl rfl ?_
    refine q_calls (M2 := mi_M_ruleAt) (pc2 := 50) d_M_shared_47 rfl k_M_80 cm_M_ruleAt cs_M_ruleAt rfl rfl (Nat.le_of_ble_eq_true rfl) (c_M_ruleAt (F := F) (r := r) (k := 1)) (d2 := d - 1) (by omega) (Nat.le_of_eq (Nat.zero_add _)) (Nat.le_of_eq (Nat.zero_add _)) ?_
    refine q_iaload (q := 174 + 84 * F + 60 + 4 * r + 1) (x := I 762 (174 + 84 * F + 60 + 4 * r + 1)) (pc2 := 51) d_M_shared_50 rfl (sh_762 hS) (nI_toInt (by omega)) (by omega) rfl ?_
    refine q_iaddV (pc2 := 52) d_M_shared_51 rfl (A := (0 : Int)) (B := (I 762 (174 + 84 * F + 60 + 4 * r + 1)).toInt) (nI_toInt (by omega)) (rfl) (by constructor <;> omega) (fun y19 ey19 hy19 => ?_)
    refine q_icmp_ge (tgt := 58) (A := B.toInt) (B := (0 : Int) + (I 762 (174 + 84 * F + 60 + 4 * r + 1)).toInt) (pc2 := 55) d_M_shared_52 rfl rfl (rfl) (hy19) (fun c20 => ?_) (fun c20 => ?_)
    · refine q_iinc (b := 1) (pc2 := 61) d_M_shared_58 rfl rfl (by decide) (Nat.le_of_ble_eq_true rfl) ?_
      refine r_goto (tgt := 12) d_M_shared_61 rfl ?_
      refine r_iload (pc2 := 14) d_M_shared_12 rfl rfl ?_
      refine r_iconst (v := nI 3) (pc2 := 15) d_M_shared_14 rfl (by decide) ?_
      refine q_icmp_gt (tgt := 64) (A := (2 : Int)) (B := (3 : Int)) (pc2 := 18) d_M_shared_15 rfl rfl (nI_toInt (by omega)) (nI_toInt (by omega)) (fun c21 => ?_) (fun c21 => ?_)
      · exfalso; omega
      refine r_sipush (v := nI 333) (pc2 := 21) d_M_shared_18 rfl (by decide) ?_
      refine r_iload (pc2 := 23) d_M_shared_21 rfl rfl ?_
      refine r_iconst (v := nI 1) (pc2 := 24) d_M_shared_23 rfl (by decide) ?_
      refine q_isubN (pc2 := 25) d_M_shared_24 rfl (by omega) ?_
      refine q_imulN (pc2 := 26) d_M_shared_25 rfl ?_
      refine r_istore (pc2 := 28) d_M_shared_26 rfl (Nat.le_of_ble_eq_true rfl) ?_
      refine r_iload (pc2 := 30) d_M_shared_28 rfl rfl ?_
      refine r_iload (pc2 := 32) d_M_shared_30 rfl rfl ?_
      refine q_icmp_lt (tgt := 58) (A := B.toInt) (B := (333 : Int)) (pc2 := 35) d_M_shared_32 rfl rfl (rfl) (nI_toInt (by omega)) (fun c22 => ?_) (fun c22 => ?_)
      · refine q_iinc (b := 1) (pc2 := 61) d_M_shared_58 rfl rfl (by decide) (Nat.le_of_ble_eq_true rfl) ?_
        refine r_goto (tgt := 12) d_M_shared_61 rfl ?_
        refine r_iload (pc2 := 14) d_M_shared_12 rfl rfl ?_
        refine r_iconst (v := nI 3) (pc2 := 15) d_M_shared_14 rfl (by decide) ?_
        refine q_icmp_gt (tgt := 64) (A := (3 : Int)) (B := (3 : Int)) (pc2 := 18) d_M_shared_15 rfl rfl (nI_toInt (by omega)) (nI_toInt (by omega)) (fun c23 => ?_) (fun c23 => ?_)
        · exfalso; omega
        refine r_sipush (v := nI 333) (pc2 := 21) d_M_shared_18 rfl (by decide) ?_
        refine r_iload (pc2 := 23) d_M_shared_21 rfl rfl ?_
        refine r_iconst (v := nI 1) (pc2 := 24) d_M_shared_23 rfl (by decide) ?_
        refine q_isubN (pc2 := 25) d_M_shared_24 rfl (by omega) ?_
        refine q_imulN (pc2 := 26) d_M_shared_25 rfl ?_
        refine r_istore (pc2 := 28) d_M_shared_26 rfl (Nat.le_of_ble_eq_true rfl) ?_
        refine r_iload (pc2 := 30) d_M_shared_28 rfl rfl ?_
        refine r_iload (pc2 := 32) d_M_shared_30 rfl rfl ?_
        refine q_icmp_lt (tgt := 58) (A := B.toInt) (B := (666 : Int)) (pc2 := 35) d_M_shared_32 rfl rfl (rfl) (nI_toInt (by omega)) (fun c24 => ?_) (fun c24 => ?_)
        · refine q_iinc (b := 1) (pc2 := 61) d_M_shared_58 rfl rfl (by decide) (Nat.le_of_ble_eq_true rfl) ?_
          refine r_goto (tgt := 12) d_M_shared_61 rfl ?_
          refine r_iload (pc2 := 14) d_M_shared_12 rfl rfl ?_
          refine r_iconst (v := nI 3) (pc2 := 15) d_M_shared_14 rfl (by decide) ?_
          refine q_icmp_gt (tgt := 64) (A := (4 : Int)) (B := (3 : Int)) (pc2 := 18) d_M_shared_15 rfl rfl (nI_toInt (by omega)) (nI_toInt (by omega)) (fun c25 => ?_) (fun c25 => ?_)
          rotate_left
          · exfalso; omega
          refine r_iconst (v := nI 0) (pc2 := 65) d_M_shared_64 rfl (by decide) ?_
          refine Run.ret (some (.int (nI 0))) d_M_shared_65 ⟨_, rfl⟩ ?_
          exact ⟨congrArg (fun z => some (Value.int z)) (by unfold shV; rw [if_neg (by omega), if_neg (by omega), if_neg (by omega)]; rfl), rfl⟩
        · refine r_iload (pc2 := 37) d_M_shared_35 rfl rfl ?_
          refine r_iload (pc2 := 39) d_M_shared_37 rfl rfl ?_
          refine r_aload_n (x := some 761) (pc2 := 40) d_M_shared_39 rfl rfl ?_
          refine q_getR (x := some 762) (pc2 := 43) d_M_shared_40 rfl k_M_9 rfl (sh_761 hS) (rf_761_0 hR) ?_
          refine r_iload_n (pc2 := 44) d_M_shared_43 rfl rfl ?_
          refine r_iload_n (pc2 := 45) d_M_shared_44 rfl rfl ?_
          refine r_iload (pc2 := 47) d_M_shared_45 rfl rfl ?_
          refine q_calls (M2 := mi_M_ruleAt) (pc2 := 50) d_M_shared_47 rfl k_M_80 cm_M_ruleAt cs_M_ruleAt rfl rfl (Nat.le_of_ble_eq_true rfl) (c_M_ruleAt (F := F) (r := r) (k := 3)) (d2 := d - 1) (by omega) (Nat.le_of_eq (Nat.zero_add _)) (Nat.le_of_eq (Nat.zero_add _)) ?_
          refine q_iaload (q := 174 + 84 * F + 60 + 4 * r + 3) (x := I 762 (174 + 84 * F + 60 + 4 * r + 3)) (pc2 := 51) d_M_shared_50 rfl (sh_762 hS) (nI_toInt (by omega)) (by omega) rfl ?_
          refine q_iaddV (pc2 := 52) d_M_shared_51 rfl (A := (666 : Int)) (B := (I 762 (174 + 84 * F + 60 + 4 * r + 3)).toInt) (nI_toInt (by omega)) (rfl) (by constructor <;> omega) (fun y26 ey26 hy26 => ?_)
          refine q_icmp_ge (tgt := 58) (A := B.toInt) (B := (666 : Int) + (I 762 (174 + 84 * F + 60 + 4 * r + 3)).toInt) (pc2 := 55) d_M_shared_52 rfl rfl (rfl) (hy26) (fun c27 => ?_) (fun c27 => ?_)
          · refine q_iinc (b := 1) (pc2 := 61) d_M_shared_58 rfl rfl (by decide) (Nat.le_of_ble_eq_true rfl) ?_
            refine r_goto (tgt := 12) d_M_shared_61 rfl ?_
            refine r_iload (pc2 := 14) d_M_shared_12 rfl rfl ?_
            refine r_iconst (v := nI 3) (pc2 := 15) d_M_shared_14 rfl (by decide) ?_
            refine q_icmp_gt (tgt := 64) (A := (4 : Int)) (B := (3 : Int)) (pc2 := 18) d_M_shared_15 rfl rfl (nI_toInt (by omega)) (nI_toInt (by omega)) (fun c28 => ?_) (fun c28 => ?_)
            rotate_left
            · exfalso; omega
            refine r_iconst (v := nI 0) (pc2 := 65) d_M_shared_64 rfl (by decide) ?_
            refine Run.ret (some (.int (nI 0))) d_M_shared_65 ⟨_, rfl⟩ ?_
            exact ⟨congrArg (fun z => some (Value.int z)) (by unfold shV; rw [if_neg (by omega), if_neg (by omega), if_neg (by omega)]; rfl), rfl⟩
          · refine r_iload (pc2 := 57) d_M_shared_55 rfl rfl ?_
            refine Run.ret (some (.int (nI 3))) d_M_shared_57 ⟨_, rfl⟩ ?_
            exact ⟨congrArg (fun z => some (Value.int z)) (by unfold shV; rw [if_neg (by omega), if_neg (by omega), if_pos (by omega)]; rfl), rfl⟩
      · refine r_iload (pc2 := 37) d_M_shared_35 rfl rfl ?_
        refine r_iload (pc2 := 39) d_M_shared_37 rfl rfl ?_
        refine r_aload_n (x := some 761) (pc2 := 40) d_M_shared_39 rfl rfl ?_
        refine q_getR (x := some 762) (pc2 := 43) d_M_shared_40 rfl k_M_9 rfl (sh_761 hS) (rf_761_0 hR) ?_
        refine r_iload_n (pc2 := 44) d_M_shared_43 rfl rfl ?_
        refine r_iload_n (pc2 := 45) d_M_shared_44 rfl rfl ?_
        refine r_iload (pc2 := 47) d_M_shared_45 rfl rfl ?_
        refine q_calls (M2 := mi_M_ruleAt) (pc2 := 50) d_M_shared_47 rfl k_M_80 cm_M_ruleAt cs_M_ruleAt rfl rfl (Nat.le_of_ble_eq_true rfl) (c_M_ruleAt (F := F) (r := r) (k := 2)) (d2 := d - 1) (by omega) (Nat.le_of_eq (Nat.zero_add _)) (Nat.le_of_eq (Nat.zero_add _)) ?_
        refine q_iaload (q := 174 + 84 * F + 60 + 4 * r + 2) (x := I 762 (174 + 84 * F + 60 + 4 * r + 2)) (pc2 := 51) d_M_shared_50 rfl (sh_762 hS) (nI_toInt (by omega)) (by omega) rfl ?_
        refine q_iaddV (pc2 := 52) d_M_shared_51 rfl (A := (333 : Int)) (B := (I 762 (174 + 84 * F + 60 + 4 * r + 2)).toInt) (nI_toInt (by omega)) (rfl) (by constructor <;> omega) (fun y29 ey29 hy29 => ?_)
        refine q_icmp_ge (tgt := 58) (A := B.toInt) (B := (333 : Int) + (I 762 (174 + 84 * F + 60 + 4 * r + 2)).toInt) (pc2 := 55) d_M_shared_52 rfl rfl (rfl) (hy29) (fun c30 => ?_) (fun c30 => ?_)
        · refine q_iinc (b := 1) (pc2 := 61) d_M_shared_58 rfl rfl (by decide) (Nat.le_of_ble_eq_true rfl) ?_
          refine r_goto (tgt := 12) d_M_shared_61 rfl ?_
          refine r_iload (pc2 := 14) d_M_shared_12 rfl rfl ?_
          refine r_iconst (v := nI 3) (pc2 := 15) d_M_shared_14 rfl (by decide) ?_
          refine q_icmp_gt (tgt := 64) (A := (3 : Int)) (B := (3 : Int)) (pc2 := 18) d_M_shared_15 rfl rfl (nI_toInt (by omega)) (nI_toInt (by omega)) (fun c31 => ?_) (fun c31 => ?_)
          · exfalso; omega
          refine r_sipush (v := nI 333) (pc2 := 21) d_M_shared_18 rfl (by decide) ?_
          refine r_iload (pc2 := 23) d_M_shared_21 rfl rfl ?_
          refine r_iconst (v := nI 1) (pc2 := 24) d_M_shared_23 rfl (by decide) ?_
          refine q_isubN (pc2 := 25) d_M_shared_24 rfl (by omega) ?_
          refine q_imulN (pc2 := 26) d_M_shared_25 rfl ?_
          refine r_istore (pc2 := 28) d_M_shared_26 rfl (Nat.le_of_ble_eq_true rfl) ?_
          refine r_iload (pc2 := 30) d_M_shared_28 rfl rfl ?_
          refine r_iload (pc2 := 32) d_M_shared_30 rfl rfl ?_
          refine q_icmp_lt (tgt := 58) (A := B.toInt) (B := (666 : Int)) (pc2 := 35) d_M_shared_32 rfl rfl (rfl) (nI_toInt (by omega)) (fun c32 => ?_) (fun c32 => ?_)
          · refine q_iinc (b := 1) (pc2 := 61) d_M_shared_58 rfl rfl (by decide) (Nat.le_of_ble_eq_true rfl) ?_
            refine r_goto (tgt := 12) d_M_shared_61 rfl ?_
            refine r_iload (pc2 := 14) d_M_shared_12 rfl rfl ?_
            refine r_iconst (v := nI 3) (pc2 := 15) d_M_shared_14 rfl (by decide) ?_
            refine q_icmp_gt (tgt := 64) (A := (4 : Int)) (B := (3 : Int)) (pc2 := 18) d_M_shared_15 rfl rfl (nI_toInt (by omega)) (nI_toInt (by omega)) (fun c33 => ?_) (fun c33 => ?_)
            rotate_left
            · exfalso; omega
            refine r_iconst (v := nI 0) (pc2 := 65) d_M_shared_64 rfl (by decide) ?_
            refine Run.ret (some (.int (nI 0))) d_M_shared_65 ⟨_, rfl⟩ ?_
            exact ⟨congrArg (fun z => some (Value.int z)) (by unfold shV; rw [if_neg (by omega), if_neg (by omega), if_neg (by omega)]; rfl), rfl⟩
          · refine r_iload (pc2 := 37) d_M_shared_35 rfl rfl ?_
            refine r_iload (pc2 := 39) d_M_shared_37 rfl rfl ?_
            refine r_aload_n (x := some 761) (pc2 := 40) d_M_shared_39 rfl rfl ?_
            refine q_getR (x := some 762) (pc2 := 43) d_M_shared_40 rfl k_M_9 rfl (sh_761 hS) (rf_761_0 hR) ?_
            refine r_iload_n (pc2 := 44) d_M_shared_43 rfl rfl ?_
            refine r_iload_n (pc2 := 45) d_M_shared_44 rfl rfl ?_
            refine r_iload (pc2 := 47) d_M_shared_45 rfl rfl ?_
            refine q_calls (M2 := mi_M_ruleAt) (pc2 := 50) d_M_shared_47 rfl k_M_80 cm_M_ruleAt cs_M_ruleAt rfl rfl (Nat.le_of_ble_eq_true rfl) (c_M_ruleAt (F := F) (r := r) (k := 3)) (d2 := d - 1) (by omega) (Nat.le_of_eq (Nat.zero_add _)) (Nat.le_of_eq (Nat.zero_add _)) ?_
            refine q_iaload (q := 174 + 84 * F + 60 + 4 * r + 3) (x := I 762 (174 + 84 * F + 60 + 4 * r + 3)) (pc2 := 51) d_M_shared_50 rfl (sh_762 hS) (nI_toInt (by omega)) (by omega) rfl ?_
            refine q_iaddV (pc2 := 52) d_M_shared_51 rfl (A := (666 : Int)) (B := (I 762 (174 + 84 * F + 60 + 4 * r + 3)).toInt) (nI_toInt (by omega)) (rfl) (by constructor <;> omega) (fun y34 ey34 hy34 => ?_)
            refine q_icmp_ge (tgt := 58) (A := B.toInt) (B := (666 : Int) + (I 762 (174 + 84 * F + 60 + 4 * r + 3)).toInt) (pc2 := 55) d_M_shared_52 rfl rfl (rfl) (hy34) (fun c35 => ?_) (fun c35 => ?_)
            · refine q_iinc (b := 1) (pc2 := 61) d_M_shared_58 rfl rfl (by decide) (Nat.le_of_ble_eq_true rfl) ?_
              refine r_goto (tgt := 12) d_M_shared_61 rfl ?_
              refine r_iload (pc2 := 14) d_M_shared_12 rfl rfl ?_
              refine r_iconst (v := nI 3) (pc2 := 15) d_M_shared_14 rfl (by decide) ?_
              refine q_icmp_gt (tgt := 64) (A := (4 : Int)) (B := (3 : Int)) (pc2 := 18) d_M_shared_15 rfl rfl (nI_toInt (by omega)) (nI_toInt (by omega)) (fun c36 => ?_) (fun c36 => ?_)
              rotate_left
              · exfalso; omega
              refine r_iconst (v := nI 0) (pc2 := 65) d_M_shared_64 rfl (by decide) ?_
              refine Run.ret (some (.int (nI 0))) d_M_shared_65 ⟨_, rfl⟩ ?_
              exact ⟨congrArg (fun z => some (Value.int z)) (by unfold shV; rw [if_neg (by omega), if_neg (by omega), if_neg (by omega)]; rfl), rfl⟩
            · refine r_iload (pc2 := 57) d_M_shared_55 rfl rfl ?_
              refine Run.ret (some (.int (nI 3))) d_M_shared_57 ⟨_, rfl⟩ ?_
              exact ⟨congrArg (fun z => some (Value.int z)) (by unfold shV; rw [if_neg (by omega), if_neg (by omega), if_pos (by omega)]; rfl), rfl⟩
        · refine r_iload (pc2 := 57) d_M_shared_55 rfl rfl ?_
          refine Run.ret (some (.int (nI 2))) d_M_shared_57 ⟨_, rfl⟩ ?_
          exact ⟨congrArg (fun z => some (Value.int z)) (by unfold shV; rw [if_neg (by omega), if_pos (by omega)]; rfl), rfl⟩
    · refine r_iload (pc2 := 57) d_M_shared_55 rfl rfl ?_
      refine Run.ret (some (.int (nI 1))) d_M_shared_57 ⟨_, rfl⟩ ?_
      exact ⟨congrArg (fun z => some (Value.int z)) (by unfold shV; rw [if_pos (by omega)]; rfl), rfl⟩
