/-! THE CLASS: a desk becomes another one -/
theorem tkI {J : Nat → Nat → Int32} {A B i : Nat} : tk5 J A B i i = fun a j => if (A ≤ a ∧ a < A + 5) ∧ j = i then J (B + (a - A)) i else J a j := rfl
/-- steps told of those of another desk, i through -/
def SPF (A B i : Nat) (I K : Nat → Nat → Int32) : Prop := (∀ c j, c < 5 → j < i → K (A + c) j = I (B + c) j) ∧ ∀ a j, ¬ (A ≤ a ∧ a < A + 5) → K a j = I a j
theorem SPF.s {A B i : Nat} {I J : Nat → Nat → Int32} (hAB : A + 5 ≤ B ∨ B + 5 ≤ A) (h : SPF A B i I J) : SPF A B (i + 1) I (tk5 J A B i i) := by
  refine ⟨fun c j hc hj => ?_, fun a j q => ?_⟩
  · unfold tk5
    by_cases z : j = i
    · subst z
      rw [if_pos (by omega), show A + c - A = c by omega]
      exact h.2 _ _ (by omega)
    · rw [if_neg (by omega)]; exact h.1 c j hc (by omega)
  · unfold tk5; rw [if_neg (by omega)]; exact h.2 a j q
/-- a desk's features, i through -/
def BFt (s t i : Nat) (I K : Nat → Nat → Int32) (R R' : Nat → Nat → Option Nat) : Prop := (∀ E, E < i → (∀ c j, c < 19 → PBF c j → K (fe t E + c) j = I (fe s E + c) j) ∧ ∀ r, r < 6 → R' (ru t E r) 0 = R (ru s E r) 0) ∧ (∀ a j, ¬ (fe t 0 ≤ a ∧ a < fe t i) → K a j = I a j) ∧ ∀ a j, ¬ (fe t 0 ≤ a ∧ a < fe t i) → R' a j = R a j
theorem BFt.rf {s t : Nat} {I : Nat → Nat → Int32} {R : Nat → Nat → Option Nat} : BFt s t 0 I I R R := ⟨fun _ h => by omega, fun _ _ _ => rfl, fun _ _ _ => rfl⟩
theorem BFt.s {s t i : Nat} {I J K : Nat → Nat → Int32} {R R1 R2 : Nat → Nat → Option Nat} (hst : s ≠ t) (hs : s < 3) (ht : t < 3) (hi : i < 12) (h : BFt s t i I J R R1) (h1 : CPF PBF s t i J K) (h2 : BRF 6 s t i R1 R2) : BFt s t (i + 1) I K R R2 := by
  refine ⟨fun E hE => ?_, fun a j q => ?_, fun a j q => ?_⟩
  · by_cases z : E = i
    · subst z
      refine ⟨fun c j hc hp => (h1.1 c j hc hp).trans (h.2.1 _ _ (by unfold fe; omega)), fun r hr => (h2.1 r hr).trans (h.2.2 _ _ (by unfold ru fe; omega))⟩
    · obtain ⟨a1, a2⟩ := h.1 E (by omega)
      refine ⟨fun c j hc hp => (h1.2 _ _ (by unfold fe; omega)).trans (a1 c j hc hp), fun r hr => (h2.2 _ _ (fun r2 hr2 z => ?_)).trans (a2 r hr)⟩
      have := z.1
      unfold ru fe at this; omega
  · exact (h1.2 a j (by unfold fe at q ⊢; omega)).trans (h.2.1 a j (by unfold fe at q ⊢; omega))
  · refine (h2.2 a j (fun r2 hr2 z => ?_)).trans (h.2.2 a j (by unfold fe at q ⊢; omega))
    have := z.1
    unfold ru fe at this; unfold fe at q; omega
theorem c_Pe_become_02 {d : Nat} {J : Nat → Nat → Int32} {R : Nat → Nat → Option Nat} {L : Nat → Nat → Int64} {sh : Nat → Nat × Nat} {N : Nat} (hS : ShOK sh) (hR : RfOK R) (hd : 1 ≤ d) : Mt mi_Pe_become d 0 0 [.ref 480, .ref 2] (J, R, L, sh, N) (fun x h2 => x = none ∧ ∃ K1 K2 K, h2 = (K, R, L, sh, N) ∧ K1 = cpyI J 3 0 481 0 24 ∧ K2 = cpyI K1 4 0 482 0 24 ∧ K = u2 K2 480 2 (J 2 2)) := by
  refine Mt.of pn_Pe (Nat.le_of_ble_eq_true rfl) ?_
  show Run mi_Pe_become d 0 0 0 [(0, .ref 480), (1, .ref 2)] [] (J, R, L, sh, N) _
  refine r_aload_n (x := some 2) (pc2 := 1) d_Pe_become_0 rfl rfl ?_
  refine q_getR (x := some 3) (pc2 := 4) d_Pe_become_1 rfl k_Pe_9 rfl (sh_2 hS) (rf_2_0 hR) ?_
  refine r_iconst (v := nI 0) (pc2 := 5) d_Pe_become_4 rfl (by decide) ?_
  refine r_aload_n (x := some 480) (pc2 := 6) d_Pe_become_5 rfl rfl ?_
  refine q_getR (x := some 481) (pc2 := 9) d_Pe_become_6 rfl k_Pe_9 rfl (sh_480 hS) (rf_480_0 hR) ?_
  refine r_iconst (v := nI 0) (pc2 := 10) d_Pe_become_9 rfl (by decide) ?_
  refine r_bipush (v := nI 24) (pc2 := 12) d_Pe_become_10 rfl (by decide) ?_
  refine r_copyI (SP := 0) (DP := 0) (K := 24) (pc2 := 15) d_Pe_become_12 rfl k_Pe_22 ac_native ac_static iw_JS (sh_3 hS) (sh_481 hS) (nI_toInt (by omega)) (nI_toInt (by omega)) (nI_toInt (by omega)) (by omega) (by omega) (by omega) (Nat.le_of_ble_eq_true rfl) ?_
  obtain ⟨K1, hK1⟩ : ∃ x, x = cpyI J 3 0 481 0 24 := ⟨_, rfl⟩
  rw [← hK1]
  refine r_aload_n (x := some 2) (pc2 := 16) d_Pe_become_15 rfl rfl ?_
  refine q_getR (x := some 4) (pc2 := 19) d_Pe_become_16 rfl k_Pe_15 rfl (sh_2 hS) (rf_2_1 hR) ?_
  refine r_iconst (v := nI 0) (pc2 := 20) d_Pe_become_19 rfl (by decide) ?_
  refine r_aload_n (x := some 480) (pc2 := 21) d_Pe_become_20 rfl rfl ?_
  refine q_getR (x := some 482) (pc2 := 24) d_Pe_become_21 rfl k_Pe_15 rfl (sh_480 hS) (rf_480_1 hR) ?_
  refine r_iconst (v := nI 0) (pc2 := 25) d_Pe_become_24 rfl (by decide) ?_
  refine r_bipush (v := nI 24) (pc2 := 27) d_Pe_become_25 rfl (by decide) ?_
  refine r_copyI (SP := 0) (DP := 0) (K := 24) (pc2 := 30) d_Pe_become_27 rfl k_Pe_22 ac_native ac_static iw_JS (sh_4 hS) (sh_482 hS) (nI_toInt (by omega)) (nI_toInt (by omega)) (nI_toInt (by omega)) (by omega) (by omega) (by omega) (Nat.le_of_ble_eq_true rfl) ?_
  obtain ⟨K2, hK2⟩ : ∃ x, x = cpyI K1 4 0 482 0 24 := ⟨_, rfl⟩
  rw [← hK2]
  refine r_aload_n (x := some 480) (pc2 := 31) d_Pe_become_30 rfl rfl ?_
  refine r_aload_n (x := some 2) (pc2 := 32) d_Pe_become_31 rfl rfl ?_
  have hcn : K2 2 2 = J 2 2 := (cpy_o hK2 (by decide)).trans (cpy_o hK1 (by decide))
  refine q_getI (x := J 2 2) (pc2 := 35) d_Pe_become_32 rfl k_Pe_18 (by decide) (sh_2 hS) hcn ?_
  refine q_putI (pc2 := 38) d_Pe_become_35 rfl k_Pe_18 (Or.inl rfl) (sh_480 hS) (Or.inl rfl) (fun I3 hI3 => ?_)
  refine Run.ret none d_Pe_become_38 rfl ?_
  exact ⟨rfl, _, _, _, rfl, rfl, hK2, hI3⟩
theorem c_St_takeFrom_02 {d : Nat} {J : Nat → Nat → Int32} {R : Nat → Nat → Option Nat} {L : Nat → Nat → Int64} {sh : Nat → Nat × Nat} {N : Nat} (hS : ShOK sh) (hR : RfOK R) {i : Nat} (hi : i < 24) : Mt mi_St_takeFrom d 0 0 [.ref 484, .ref 6, .int (nI i), .int (nI i)] (J, R, L, sh, N) (fun x h2 => x = none ∧ ∃ K, h2 = (K, R, L, sh, N) ∧ K = tk5 J 485 7 i i) := by
  refine Mt.of pn_St (Nat.le_of_ble_eq_true rfl) ?_
  show Run mi_St_takeFrom d 0 0 0 [(0, .ref 484), (1, .ref 6), (2, .int (nI i)), (3, .int (nI i))] [] (J, R, L, sh, N) _
  refine r_aload_n (x := some 484) (pc2 := 1) d_St_takeFrom_0 rfl rfl ?_
  refine q_getR (x := some 485) (pc2 := 4) d_St_takeFrom_1 rfl k_St_9 rfl (sh_484 hS) (rf_484_0 hR) ?_
  refine r_iload_n (pc2 := 5) d_St_takeFrom_4 rfl rfl ?_
  refine r_aload_n (x := some 6) (pc2 := 6) d_St_takeFrom_5 rfl rfl ?_
  refine q_getR (x := some 7) (pc2 := 9) d_St_takeFrom_6 rfl k_St_9 rfl (sh_6 hS) (rf_6_0 hR) ?_
  refine r_iload_n (pc2 := 10) d_St_takeFrom_9 rfl rfl ?_
  refine q_iaload (q := i) (x := J 7 i) (pc2 := 11) d_St_takeFrom_10 rfl (sh_7 hS) (nI_toInt (by omega)) (by omega) rfl ?_
  refine q_iastore (q := i) (pc2 := 12) d_St_takeFrom_11 rfl (sh_485 hS) (nI_toInt (by omega)) (by omega) (fun I1 hI1 => ?_)
  refine r_aload_n (x := some 484) (pc2 := 13) d_St_takeFrom_12 rfl rfl ?_
  refine q_getR (x := some 486) (pc2 := 16) d_St_takeFrom_13 rfl k_St_15 rfl (sh_484 hS) (rf_484_1 hR) ?_
  refine r_iload_n (pc2 := 17) d_St_takeFrom_16 rfl rfl ?_
  refine r_aload_n (x := some 6) (pc2 := 18) d_St_takeFrom_17 rfl rfl ?_
  refine q_getR (x := some 8) (pc2 := 21) d_St_takeFrom_18 rfl k_St_15 rfl (sh_6 hS) (rf_6_1 hR) ?_
  refine r_iload_n (pc2 := 22) d_St_takeFrom_21 rfl rfl ?_
  refine q_iaload (q := i) (x := J 8 i) (pc2 := 23) d_St_takeFrom_22 rfl (sh_8 hS) (nI_toInt (by omega)) (by omega) (rd_ne hI1 (by decide)) ?_
  refine q_iastore (q := i) (pc2 := 24) d_St_takeFrom_23 rfl (sh_486 hS) (nI_toInt (by omega)) (by omega) (fun I2 hI2 => ?_)
  refine r_aload_n (x := some 484) (pc2 := 25) d_St_takeFrom_24 rfl rfl ?_
  refine q_getR (x := some 487) (pc2 := 28) d_St_takeFrom_25 rfl k_St_18 rfl (sh_484 hS) (rf_484_2 hR) ?_
  refine r_iload_n (pc2 := 29) d_St_takeFrom_28 rfl rfl ?_
  refine r_aload_n (x := some 6) (pc2 := 30) d_St_takeFrom_29 rfl rfl ?_
  refine q_getR (x := some 9) (pc2 := 33) d_St_takeFrom_30 rfl k_St_18 rfl (sh_6 hS) (rf_6_2 hR) ?_
  refine r_iload_n (pc2 := 34) d_St_takeFrom_33 rfl rfl ?_
  refine q_iaload (q := i) (x := J 9 i) (pc2 := 35) d_St_takeFrom_34 rfl (sh_9 hS) (nI_toInt (by omega)) (by omega) ((rd_ne hI2 (by decide)).trans (rd_ne hI1 (by decide))) ?_
  refine q_iastore (q := i) (pc2 := 36) d_St_takeFrom_35 rfl (sh_487 hS) (nI_toInt (by omega)) (by omega) (fun I3 hI3 => ?_)
  refine r_aload_n (x := some 484) (pc2 := 37) d_St_takeFrom_36 rfl rfl ?_
  refine q_getR (x := some 488) (pc2 := 40) d_St_takeFrom_37 rfl k_St_21 rfl (sh_484 hS) (rf_484_3 hR) ?_
  refine r_iload_n (pc2 := 41) d_St_takeFrom_40 rfl rfl ?_
  refine r_aload_n (x := some 6) (pc2 := 42) d_St_takeFrom_41 rfl rfl ?_
  refine q_getR (x := some 10) (pc2 := 45) d_St_takeFrom_42 rfl k_St_21 rfl (sh_6 hS) (rf_6_3 hR) ?_
  refine r_iload_n (pc2 := 46) d_St_takeFrom_45 rfl rfl ?_
  refine q_iaload (q := i) (x := J 10 i) (pc2 := 47) d_St_takeFrom_46 rfl (sh_10 hS) (nI_toInt (by omega)) (by omega) ((rd_ne hI3 (by decide)).trans ((rd_ne hI2 (by decide)).trans (rd_ne hI1 (by decide)))) ?_
  refine q_iastore (q := i) (pc2 := 48) d_St_takeFrom_47 rfl (sh_488 hS) (nI_toInt (by omega)) (by omega) (fun I4 hI4 => ?_)
  refine r_aload_n (x := some 484) (pc2 := 49) d_St_takeFrom_48 rfl rfl ?_
  refine q_getR (x := some 489) (pc2 := 52) d_St_takeFrom_49 rfl k_St_24 rfl (sh_484 hS) (rf_484_4 hR) ?_
  refine r_iload_n (pc2 := 53) d_St_takeFrom_52 rfl rfl ?_
  refine r_aload_n (x := some 6) (pc2 := 54) d_St_takeFrom_53 rfl rfl ?_
  refine q_getR (x := some 11) (pc2 := 57) d_St_takeFrom_54 rfl k_St_24 rfl (sh_6 hS) (rf_6_4 hR) ?_
  refine r_iload_n (pc2 := 58) d_St_takeFrom_57 rfl rfl ?_
  refine q_iaload (q := i) (x := J 11 i) (pc2 := 59) d_St_takeFrom_58 rfl (sh_11 hS) (nI_toInt (by omega)) (by omega) ((rd_ne hI4 (by decide)).trans ((rd_ne hI3 (by decide)).trans ((rd_ne hI2 (by decide)).trans (rd_ne hI1 (by decide))))) ?_
  refine q_iastore (q := i) (pc2 := 60) d_St_takeFrom_59 rfl (sh_489 hS) (nI_toInt (by omega)) (by omega) (fun I5 hI5 => ?_)
  refine Run.ret none d_St_takeFrom_60 rfl ?_
  exact ⟨rfl, _, rfl, tk5_eq 485 7 hI1 hI2 hI3 hI4 hI5⟩
theorem l_St_become_02 {d : Nat} {J : Nat → Nat → Int32} {R : Nat → Nat → Option Nat} {L : Nat → Nat → Int64} {sh : Nat → Nat × Nat} {N : Nat} (hS : ShOK sh) (hR : RfOK R) {nS : Nat} (hn : J 6 5 = nI nS) (hn24 : nS ≤ 24) (hd : 1 ≤ d) {Q : Option Value → HS → Prop} (hq : ∀ J1 K, SPF 485 7 nS J J1 → K = u2 J1 484 5 (nI nS) → Q none (K, R, L, sh, N)) : ∀ (n_ : Nat) (i : Nat) (J1 : Nat → Nat → Int32), nS - i = n_ → (SPF 485 7 i J J1) → (i ≤ nS) → Run mi_St_become d 0 0 2 [(0, .ref 484), (1, .ref 6), (2, .int (nI i))] [] (J1, R, L, sh, N) Q := by
  intro n_
  induction n_ using Nat.strongRecOn with | ind n_ ih_ => ?_
  intro i J1 hn_ v0_ v1_
  have hn1 : J1 6 5 = nI nS := (v0_.2 _ _ (by decide)).trans hn
  refine r_iload_n (pc2 := 3) d_St_become_2 rfl rfl ?_
  refine r_aload_n (x := some 6) (pc2 := 4) d_St_become_3 rfl rfl ?_
  refine q_getI (x := nI nS) (pc2 := 7) d_St_become_4 rfl k_St_27 (by decide) (sh_6 hS) hn1 ?_
  refine q_icmp_ge (tgt := 23) (A := ((i : Nat) : Int)) (B := ((nS : Nat) : Int)) (pc2 := 10) d_St_become_7 rfl rfl (nI_toInt (by omega)) (nI_toInt (by omega)) (fun c1 => ?_) (fun c1 => ?_)
  · refine r_aload_n (x := some 484) (pc2 := 24) d_St_become_23 rfl rfl ?_
    refine r_aload_n (x := some 6) (pc2 := 25) d_St_become_24 rfl rfl ?_
    refine q_getI (x := nI nS) (pc2 := 28) d_St_become_25 rfl k_St_27 (by decide) (sh_6 hS) hn1 ?_
    refine q_putI (pc2 := 31) d_St_become_28 rfl k_St_27 (Or.inl rfl) (sh_484 hS) (Or.inl rfl) (fun I2 hI2 => ?_)
    refine Run.ret none d_St_become_31 rfl ?_
    exact hq J1 _ (by rw [show nS = i by omega]; exact v0_) hI2
  · refine r_aload_n (x := some 484) (pc2 := 11) d_St_become_10 rfl rfl ?_
    refine r_aload_n (x := some 6) (pc2 := 12) d_St_become_11 rfl rfl ?_
    refine r_iload_n (pc2 := 13) d_St_become_12 rfl rfl ?_
    refine r_iload_n (pc2 := 14) d_St_become_13 rfl rfl ?_
    refine r_callv (M2 := mi_St_takeFrom) (pc2 := 17) d_St_become_14 rfl k_St_31 cm_St_takeFrom cv_St_takeFrom (sh_484 hS) (by decide) rfl rfl rfl (Nat.le_of_ble_eq_true rfl) (c_St_takeFrom_02 (J := J1) hS hR (i := i) (by omega)) (d2 := d - 1) (by omega) (Nat.le_of_eq (Nat.zero_add _)) (Nat.le_of_eq (Nat.zero_add _)) (fun r2 h2 hq2 => ?_)
    obtain ⟨rfl, K3, rfl, hK3⟩ := hq2
    change Run _ _ _ _ _ _ [] _ _
    refine q_iinc (b := 1) (pc2 := 20) d_St_become_17 rfl rfl (by decide) (Nat.le_of_ble_eq_true rfl) ?_
    refine r_goto (tgt := 2) d_St_become_20 rfl ?_
    refine Run.sub (l2 := [(0, .ref 484), (1, .ref 6), (2, .int (nI (i + 1)))]) ⟨rfl, rfl, rfl, trivial⟩ ?_
    exact ih_ (nS - (i + 1)) (by omega) (i + 1) K3 rfl (by rw [hK3]; exact SPF.s (by decide) v0_) (by omega)
theorem c_St_become_02 {d : Nat} {J : Nat → Nat → Int32} {R : Nat → Nat → Option Nat} {L : Nat → Nat → Int64} {sh : Nat → Nat × Nat} {N : Nat} (hS : ShOK sh) (hR : RfOK R) {nS : Nat} (hn : J 6 5 = nI nS) (hn24 : nS ≤ 24) (hd : 1 ≤ d) : Mt mi_St_become d 0 0 [.ref 484, .ref 6] (J, R, L, sh, N) (fun x h2 => x = none ∧ ∃ J1 K, h2 = (K, R, L, sh, N) ∧ SPF 485 7 nS J J1 ∧ K = u2 J1 484 5 (nI nS)) := by
  refine Mt.of pn_St (Nat.le_of_ble_eq_true rfl) ?_
  show Run mi_St_become d 0 0 0 [(0, .ref 484), (1, .ref 6)] [] (J, R, L, sh, N) _
  refine r_iconst (v := nI 0) (pc2 := 1) d_St_become_0 rfl (by decide) ?_
  refine r_istore_n (pc2 := 2) d_St_become_1 rfl rfl (Nat.le_of_ble_eq_true rfl) ?_
  refine Run.sub (l2 := [(0, .ref 484), (1, .ref 6), (2, .int (nI 0))]) ⟨rfl, rfl, rfl, trivial⟩ ?_
  exact l_St_become_02 hS hR hn hn24 hd (fun J1 K a b => ⟨rfl, J1, K, rfl, a, b⟩) _ 0 J rfl ⟨fun _ _ _ h => by omega, fun _ _ _ => rfl⟩ (Nat.zero_le _)
theorem l_De_become_02 {d : Nat} {P3 : Nat → Nat → Int32} {R : Nat → Nat → Option Nat} {L : Nat → Nat → Int64} {sh : Nat → Nat × Nat} {N : Nat} (hS : ShOK sh) (hR : RfOK R) (hd : 12 ≤ d) {Q : Option Value → HS → Prop} (hk : ∀ J1 R1, BFt 0 2 12 P3 J1 R R1 → RfOK R1 → Run mi_De_become d 0 0 40 [(0, .ref 479), (1, .ref 1)] [] (J1, R1, L, sh, N) Q) : ∀ (n_ : Nat) (i : Nat) (J1 : Nat → Nat → Int32) (R1 : Nat → Nat → Option Nat), 12 - i = n_ → (BFt 0 2 i P3 J1 R R1) → (RfOK R1) → (i ≤ 12) → Run mi_De_become d 0 0 13 [(0, .ref 479), (1, .ref 1), (2, .int (nI i))] [] (J1, R1, L, sh, N) Q := by
  intro n_
  induction n_ using Nat.strongRecOn with | ind n_ ih_ => ?_
  intro i J1 R1 hn_ v0_ v1_ v2_
  refine r_iload_n (pc2 := 14) d_De_become_13 rfl rfl ?_
  refine r_bipush (v := nI 12) (pc2 := 16) d_De_become_14 rfl (by decide) ?_
  refine q_icmp_ge (tgt := 40) (A := ((i : Nat) : Int)) (B := (12 : Int)) (pc2 := 19) d_De_become_16 rfl rfl (nI_toInt (by omega)) (nI_toInt (by omega)) (fun c1 => ?_) (fun c1 => ?_)
  · refine Run.sub (l2 := [(0, .ref 479), (1, .ref 1)]) ⟨rfl, rfl, trivial⟩ ?_
    rw [show i = 12 by omega] at v0_; exact hk J1 R1 v0_ v1_
  · refine r_aload_n (x := some 479) (pc2 := 20) d_De_become_19 rfl rfl ?_
    refine q_getR (x := some 483) (pc2 := 23) d_De_become_20 rfl k_De_20 rfl (sh_479 hS) (rf_479_1 v1_) ?_
    refine r_iload_n (pc2 := 24) d_De_become_23 rfl rfl ?_
    refine q_aaload (q := i) (x := some (fe 2 i)) (pc2 := 25) d_De_become_24 rfl (sh_483 hS) (by decide) (by decide) (nI_toInt (by omega)) (by omega) (rf_fe v1_ (show 2 < 3 by decide) (show i < 12 by omega)) ?_
    refine r_aload_n (x := some 1) (pc2 := 26) d_De_become_25 rfl rfl ?_
    refine q_getR (x := some 5) (pc2 := 29) d_De_become_26 rfl k_De_20 rfl (sh_1 hS) (rf_1_1 v1_) ?_
    refine r_iload_n (pc2 := 30) d_De_become_29 rfl rfl ?_
    refine q_aaload (q := i) (x := some (fe 0 i)) (pc2 := 31) d_De_become_30 rfl (sh_5 hS) (by decide) (by decide) (nI_toInt (by omega)) (by omega) (rf_fe v1_ (show 0 < 3 by decide) (show i < 12 by omega)) ?_
    refine r_callv (M2 := mi_Fe_become) (pc2 := 34) d_De_become_31 rfl k_De_49 cm_Fe_become cv_Fe_become (sh_fe0 hS (show 2 < 3 by decide) (show i < 12 by omega)) (by decide) rfl rfl rfl (Nat.le_of_ble_eq_true rfl) (c_Fe_become (I := J1) (R := R1) hS v1_ (s := 0) (t := 2) (F := i) (by decide) (by decide) (by decide) (by omega) (d := d - 1) (by omega)) (d2 := d - 1) (by omega) (Nat.le_of_eq (Nat.zero_add _)) (Nat.le_of_eq (Nat.zero_add _)) (fun r2 h2 hq2 => ?_)
    obtain ⟨rfl, K, R2, rfl, hc1, hb1, hr2⟩ := hq2
    change Run _ _ _ _ _ _ [] _ _
    refine q_iinc (b := 1) (pc2 := 37) d_De_become_34 rfl rfl (by decide) (Nat.le_of_ble_eq_true rfl) ?_
    refine r_goto (tgt := 13) d_De_become_37 rfl ?_
    refine Run.sub (l2 := [(0, .ref 479), (1, .ref 1), (2, .int (nI (i + 1)))]) ⟨rfl, rfl, rfl, trivial⟩ ?_
    exact ih_ (12 - (i + 1)) (by omega) (i + 1) K R2 rfl (BFt.s (by decide) (by decide) (by decide) (by omega) v0_ hc1 hb1) (hr2) (by omega)
theorem c_De_become_02 {d : Nat} {I : Nat → Nat → Int32} {R : Nat → Nat → Option Nat} {L : Nat → Nat → Int64} {sh : Nat → Nat × Nat} {N : Nat} (hS : ShOK sh) (hR : RfOK R) {tK tF tC tS : Nat → Int32} {nt : Nat} {G : Nat → Int32} {nP nF nS : Nat} (hW : WFA G nP nF nt) (hS24 : nS ≤ 24) (hD : DR tK tF tC tS I R sh nt 0 G nP nF nS) (hd : 14 ≤ d) : Mt mi_De_become d 0 0 [.ref 479, .ref 1] (I, R, L, sh, N) (fun x h2 => x = none ∧ ∃ K R1, h2 = (K, R1, L, sh, N) ∧ FrE 2 I K ∧ BR 2 R R1 ∧ DR tK tF tC tS K R1 sh nt 2 G nP nF nS) := by
  refine Mt.of pn_De (Nat.le_of_ble_eq_true rfl) ?_
  show Run mi_De_become d 0 0 0 [(0, .ref 479), (1, .ref 1)] [] (I, R, L, sh, N) _
  refine r_aload_n (x := some 479) (pc2 := 1) d_De_become_0 rfl rfl ?_
  refine q_getR (x := some 480) (pc2 := 4) d_De_become_1 rfl k_De_12 rfl (sh_479 hS) (rf_479_0 hR) ?_
  refine r_aload_n (x := some 1) (pc2 := 5) d_De_become_4 rfl rfl ?_
  refine q_getR (x := some 2) (pc2 := 8) d_De_become_5 rfl k_De_12 rfl (sh_1 hS) (rf_1_0 hR) ?_
  refine r_callv (M2 := mi_Pe_become) (pc2 := 11) d_De_become_8 rfl k_De_45 cm_Pe_become cv_Pe_become (sh_480 hS) (by decide) rfl rfl rfl (Nat.le_of_ble_eq_true rfl) (c_Pe_become_02 (J := I) hS hR (d := d - 1) (by omega)) (d2 := d - 1) (by omega) (Nat.le_of_eq (Nat.zero_add _)) (Nat.le_of_eq (Nat.zero_add _)) (fun r2 h2 hq2 => ?_)
  obtain ⟨rfl, P1, P2, P3, rfl, hP1, hP2, hP3⟩ := hq2
  change Run _ _ _ _ _ _ [] _ _
  have hPo : ∀ a j, a ≠ 480 → a ≠ 481 → a ≠ 482 → P3 a j = I a j := fun a j h1 h2 h3 => by rw [rd_ne hP3 h1, cpy_o hP2 h3, cpy_o hP1 h2]
  refine r_iconst (v := nI 0) (pc2 := 12) d_De_become_11 rfl (by decide) ?_
  refine r_istore_n (pc2 := 13) d_De_become_12 rfl rfl (Nat.le_of_ble_eq_true rfl) ?_
  refine Run.sub (l2 := [(0, .ref 479), (1, .ref 1), (2, .int (nI 0))]) ⟨rfl, rfl, rfl, trivial⟩ ?_
  refine l_De_become_02 hS hR (by omega) (hk := fun J1 R1 hF hR1 => ?_) _ 0 P3 R rfl BFt.rf hR (Nat.zero_le _)
  have hF1 : ∀ a j, (¬ (490 ≤ a ∧ a < 718)) → J1 a j = P3 a j := fun a j h => hF.2.1 a j (by unfold fe; omega)
  skip
  refine r_aload_n (x := some 479) (pc2 := 41) d_De_become_40 rfl rfl ?_
  refine r_aload_n (x := some 1) (pc2 := 42) d_De_become_41 rfl rfl ?_
  refine q_getI (x := I 1 2) (pc2 := 45) d_De_become_42 rfl k_De_24 (by decide) (sh_1 hS) ((hF1 1 2 (by decide)).trans (hPo 1 2 (by decide) (by decide) (by decide))) ?_
  refine q_putI (pc2 := 48) d_De_become_45 rfl k_De_24 (Or.inl rfl) (sh_479 hS) (Or.inl rfl) (fun I1 hI1 => ?_)
  have hF2 : ∀ a j, (¬ (490 ≤ a ∧ a < 718)) → a ≠ 479 → (a ≠ 480 ∧ a ≠ 481 ∧ a ≠ 482) → I1 a j = I a j := fun a j h h0 h1 => (rd_ne hI1 h0).trans ((hF1 a j h).trans (hPo a j h1.1 h1.2.1 h1.2.2))
  refine r_aload_n (x := some 479) (pc2 := 49) d_De_become_48 rfl rfl ?_
  refine q_getR (x := some 484) (pc2 := 52) d_De_become_49 rfl k_De_31 rfl (sh_479 hS) (rf_479_3 hR1) ?_
  refine r_aload_n (x := some 1) (pc2 := 53) d_De_become_52 rfl rfl ?_
  refine q_getR (x := some 6) (pc2 := 56) d_De_become_53 rfl k_De_31 rfl (sh_1 hS) (rf_1_3 hR1) ?_
  refine r_callv (M2 := mi_St_become) (pc2 := 59) d_De_become_56 rfl k_De_52 cm_St_become cv_St_become (sh_484 hS) (by decide) rfl rfl rfl (Nat.le_of_ble_eq_true rfl) (c_St_become_02 (J := I1) (R := R1) hS hR1 (nS := nS) ((rd_ne hI1 (by decide)).trans ((hF1 6 5 (by decide)).trans ((hPo 6 5 (by decide) (by decide) (by decide)).trans hD.1.2.2.2.2.2))) hS24 (d := d - 1) (by omega)) (d2 := d - 1) (by omega) (Nat.le_of_eq (Nat.zero_add _)) (Nat.le_of_eq (Nat.zero_add _)) (fun r2 h2 hq2 => ?_)
  obtain ⟨rfl, S1, S2, rfl, hS1, hS2⟩ := hq2
  change Run _ _ _ _ _ _ [] _ _
  have hSo : ∀ a j, ¬ (484 ≤ a ∧ a < 490) → S2 a j = I1 a j := fun a j q => by rw [rd_ne hS2 (by omega)]; exact hS1.2 a j (by omega)
  refine r_aload_n (x := some 479) (pc2 := 60) d_De_become_59 rfl rfl ?_
  refine r_aload_n (x := some 1) (pc2 := 61) d_De_become_60 rfl rfl ?_
  refine q_getI (x := I 1 4) (pc2 := 64) d_De_become_61 rfl k_De_35 (by decide) (sh_1 hS) ((hSo 1 4 (by decide)).trans (hF2 1 4 (by decide) (by decide) (by decide))) ?_
  refine q_putI (pc2 := 67) d_De_become_64 rfl k_De_35 (Or.inl rfl) (sh_479 hS) (Or.inl rfl) (fun I2 hI2 => ?_)
  refine r_aload_n (x := some 479) (pc2 := 68) d_De_become_67 rfl rfl ?_
  refine r_aload_n (x := some 1) (pc2 := 69) d_De_become_68 rfl rfl ?_
  refine q_getI (x := I 1 5) (pc2 := 72) d_De_become_69 rfl k_De_38 (by decide) (sh_1 hS) ((rd_ne hI2 (by decide)).trans ((hSo 1 5 (by decide)).trans (hF2 1 5 (by decide) (by decide) (by decide)))) ?_
  refine q_putI (pc2 := 75) d_De_become_72 rfl k_De_38 (Or.inl rfl) (sh_479 hS) (Or.inl rfl) (fun I3 hI3 => ?_)
  refine r_aload_n (x := some 479) (pc2 := 76) d_De_become_75 rfl rfl ?_
  refine r_aload_n (x := some 1) (pc2 := 77) d_De_become_76 rfl rfl ?_
  refine q_getI (x := I 1 6) (pc2 := 80) d_De_become_77 rfl k_De_41 (by decide) (sh_1 hS) ((rd_ne hI3 (by decide)).trans ((rd_ne hI2 (by decide)).trans ((hSo 1 6 (by decide)).trans (hF2 1 6 (by decide) (by decide) (by decide))))) ?_
  refine q_putI (pc2 := 83) d_De_become_80 rfl k_De_41 (Or.inl rfl) (sh_479 hS) (Or.inl rfl) (fun I4 hI4 => ?_)
  refine Run.ret none d_De_become_83 rfl ?_
  have hK : ∀ a j, a ≠ 479 → I4 a j = S2 a j := fun a j h => by rw [rd_ne hI4 h, rd_ne hI3 h, rd_ne hI2 h]
  have hQ1 : ∀ a j, a ≠ 479 → I1 a j = J1 a j := fun a j h => rd_ne hI1 h
  have hall : ∀ a j, ¬ (479 ≤ a ∧ a < 718) → I4 a j = I a j := fun a j h => (hK a j (by omega)).trans ((hSo a j (by omega)).trans ((hQ1 a j (by omega)).trans ((hF1 a j (by omega)).trans (hPo a j (by omega) (by omega) (by omega)))))
  have hallR : ∀ a j, ¬ (479 ≤ a ∧ a < 718) → R1 a j = R a j := fun a j h => hF.2.2 a j (by unfold fe; omega)
  refine ⟨rfl, I4, R1, rfl, fun a j q => hall a j (by unfold dk at q; omega), ⟨fun a j q => hallR a j (by unfold dk at q; omega), fun _ => hR1⟩, DR.bec (s := 0) hW hD (fun a j h _ => hall a j (by omega)) (fun a j h => hallR a j (by omega)) ?_ ?_ ?_ ?_ ?_ ?_ (fun j hj => ⟨?_, ?_⟩) (fun c i hc hi => ?_) (fun E hE c j hc hp => ?_) (fun E hE r hr => (hF.1 E hE).2 r hr)⟩
  · exact (hK 480 2 (by decide)).trans (((hSo 480 2 (by decide)).trans ((hQ1 480 2 (by decide)).trans (hF1 480 2 (by decide)))).trans (rd_eq hP3))
  · show I4 479 2 = I 1 2
    rw [rd_nk hI4 (by decide), rd_nk hI3 (by decide), rd_nk hI2 (by decide), hSo 479 2 (by decide), rd_eq hI1]
  · show I4 479 4 = I 1 4
    rw [rd_nk hI4 (by decide), rd_nk hI3 (by decide), rd_eq hI2]
  · show I4 479 5 = I 1 5
    rw [rd_nk hI4 (by decide), rd_eq hI3]
  · show I4 479 6 = I 1 6
    rw [rd_eq hI4]
  · show I4 484 5 = I 6 5
    rw [hK 484 5 (by decide), rd_eq hS2]; exact hD.1.2.2.2.2.2.symm
  · show I4 481 j = I 3 j
    rw [hK 481 j (by decide), hSo 481 j (by decide), hQ1 481 j (by decide), hF1 481 j (by decide), rd_ne hP3 (by decide)]
    rw [cpy_o hP2 (by decide)]; exact cpy_i hP1 hj
  · show I4 482 j = I 4 j
    rw [hK 482 j (by decide), hSo 482 j (by decide), hQ1 482 j (by decide), hF1 482 j (by decide), rd_ne hP3 (by decide)]
    rw [cpy_i hP2 hj]; exact cpy_o hP1 (by decide)
  · show I4 (485 + c) i = I (7 + c) i
    rw [hK _ i (by omega), rd_ne hS2 (by omega), hS1.1 c i hc hi, hQ1 _ i (by omega), hF1 _ i (by omega)]; exact hPo _ i (by omega) (by omega) (by omega)
  · have hfe : 490 ≤ fe 2 E ∧ fe 2 E + 19 ≤ 718 := by unfold fe; omega
    have hfs : 12 ≤ fe 0 E ∧ fe 0 E + 19 ≤ 240 := by unfold fe; omega
    rw [hK _ j (by omega), hSo _ j (by omega), hQ1 _ j (by omega), (hF.1 E hE).1 c j hc hp]; exact hPo _ j (by omega) (by omega) (by omega)
theorem c_Pe_become_01 {d : Nat} {J : Nat → Nat → Int32} {R : Nat → Nat → Option Nat} {L : Nat → Nat → Int64} {sh : Nat → Nat × Nat} {N : Nat} (hS : ShOK sh) (hR : RfOK R) (hd : 1 ≤ d) : Mt mi_Pe_become d 0 0 [.ref 241, .ref 2] (J, R, L, sh, N) (fun x h2 => x = none ∧ ∃ K1 K2 K, h2 = (K, R, L, sh, N) ∧ K1 = cpyI J 3 0 242 0 24 ∧ K2 = cpyI K1 4 0 243 0 24 ∧ K = u2 K2 241 2 (J 2 2)) := by
  refine Mt.of pn_Pe (Nat.le_of_ble_eq_true rfl) ?_
  show Run mi_Pe_become d 0 0 0 [(0, .ref 241), (1, .ref 2)] [] (J, R, L, sh, N) _
  refine r_aload_n (x := some 2) (pc2 := 1) d_Pe_become_0 rfl rfl ?_
  refine q_getR (x := some 3) (pc2 := 4) d_Pe_become_1 rfl k_Pe_9 rfl (sh_2 hS) (rf_2_0 hR) ?_
  refine r_iconst (v := nI 0) (pc2 := 5) d_Pe_become_4 rfl (by decide) ?_
  refine r_aload_n (x := some 241) (pc2 := 6) d_Pe_become_5 rfl rfl ?_
  refine q_getR (x := some 242) (pc2 := 9) d_Pe_become_6 rfl k_Pe_9 rfl (sh_241 hS) (rf_241_0 hR) ?_
  refine r_iconst (v := nI 0) (pc2 := 10) d_Pe_become_9 rfl (by decide) ?_
  refine r_bipush (v := nI 24) (pc2 := 12) d_Pe_become_10 rfl (by decide) ?_
  refine r_copyI (SP := 0) (DP := 0) (K := 24) (pc2 := 15) d_Pe_become_12 rfl k_Pe_22 ac_native ac_static iw_JS (sh_3 hS) (sh_242 hS) (nI_toInt (by omega)) (nI_toInt (by omega)) (nI_toInt (by omega)) (by omega) (by omega) (by omega) (Nat.le_of_ble_eq_true rfl) ?_
  obtain ⟨K1, hK1⟩ : ∃ x, x = cpyI J 3 0 242 0 24 := ⟨_, rfl⟩
  rw [← hK1]
  refine r_aload_n (x := some 2) (pc2 := 16) d_Pe_become_15 rfl rfl ?_
  refine q_getR (x := some 4) (pc2 := 19) d_Pe_become_16 rfl k_Pe_15 rfl (sh_2 hS) (rf_2_1 hR) ?_
  refine r_iconst (v := nI 0) (pc2 := 20) d_Pe_become_19 rfl (by decide) ?_
  refine r_aload_n (x := some 241) (pc2 := 21) d_Pe_become_20 rfl rfl ?_
  refine q_getR (x := some 243) (pc2 := 24) d_Pe_become_21 rfl k_Pe_15 rfl (sh_241 hS) (rf_241_1 hR) ?_
  refine r_iconst (v := nI 0) (pc2 := 25) d_Pe_become_24 rfl (by decide) ?_
  refine r_bipush (v := nI 24) (pc2 := 27) d_Pe_become_25 rfl (by decide) ?_
  refine r_copyI (SP := 0) (DP := 0) (K := 24) (pc2 := 30) d_Pe_become_27 rfl k_Pe_22 ac_native ac_static iw_JS (sh_4 hS) (sh_243 hS) (nI_toInt (by omega)) (nI_toInt (by omega)) (nI_toInt (by omega)) (by omega) (by omega) (by omega) (Nat.le_of_ble_eq_true rfl) ?_
  obtain ⟨K2, hK2⟩ : ∃ x, x = cpyI K1 4 0 243 0 24 := ⟨_, rfl⟩
  rw [← hK2]
  refine r_aload_n (x := some 241) (pc2 := 31) d_Pe_become_30 rfl rfl ?_
  refine r_aload_n (x := some 2) (pc2 := 32) d_Pe_become_31 rfl rfl ?_
  have hcn : K2 2 2 = J 2 2 := (cpy_o hK2 (by decide)).trans (cpy_o hK1 (by decide))
  refine q_getI (x := J 2 2) (pc2 := 35) d_Pe_become_32 rfl k_Pe_18 (by decide) (sh_2 hS) hcn ?_
  refine q_putI (pc2 := 38) d_Pe_become_35 rfl k_Pe_18 (Or.inl rfl) (sh_241 hS) (Or.inl rfl) (fun I3 hI3 => ?_)
  refine Run.ret none d_Pe_become_38 rfl ?_
  exact ⟨rfl, _, _, _, rfl, rfl, hK2, hI3⟩
theorem c_St_takeFrom_01 {d : Nat} {J : Nat → Nat → Int32} {R : Nat → Nat → Option Nat} {L : Nat → Nat → Int64} {sh : Nat → Nat × Nat} {N : Nat} (hS : ShOK sh) (hR : RfOK R) {i : Nat} (hi : i < 24) : Mt mi_St_takeFrom d 0 0 [.ref 245, .ref 6, .int (nI i), .int (nI i)] (J, R, L, sh, N) (fun x h2 => x = none ∧ ∃ K, h2 = (K, R, L, sh, N) ∧ K = tk5 J 246 7 i i) := by
  refine Mt.of pn_St (Nat.le_of_ble_eq_true rfl) ?_
  show Run mi_St_takeFrom d 0 0 0 [(0, .ref 245), (1, .ref 6), (2, .int (nI i)), (3, .int (nI i))] [] (J, R, L, sh, N) _
  refine r_aload_n (x := some 245) (pc2 := 1) d_St_takeFrom_0 rfl rfl ?_
  refine q_getR (x := some 246) (pc2 := 4) d_St_takeFrom_1 rfl k_St_9 rfl (sh_245 hS) (rf_245_0 hR) ?_
  refine r_iload_n (pc2 := 5) d_St_takeFrom_4 rfl rfl ?_
  refine r_aload_n (x := some 6) (pc2 := 6) d_St_takeFrom_5 rfl rfl ?_
  refine q_getR (x := some 7) (pc2 := 9) d_St_takeFrom_6 rfl k_St_9 rfl (sh_6 hS) (rf_6_0 hR) ?_
  refine r_iload_n (pc2 := 10) d_St_takeFrom_9 rfl rfl ?_
  refine q_iaload (q := i) (x := J 7 i) (pc2 := 11) d_St_takeFrom_10 rfl (sh_7 hS) (nI_toInt (by omega)) (by omega) rfl ?_
  refine q_iastore (q := i) (pc2 := 12) d_St_takeFrom_11 rfl (sh_246 hS) (nI_toInt (by omega)) (by omega) (fun I1 hI1 => ?_)
  refine r_aload_n (x := some 245) (pc2 := 13) d_St_takeFrom_12 rfl rfl ?_
  refine q_getR (x := some 247) (pc2 := 16) d_St_takeFrom_13 rfl k_St_15 rfl (sh_245 hS) (rf_245_1 hR) ?_
  refine r_iload_n (pc2 := 17) d_St_takeFrom_16 rfl rfl ?_
  refine r_aload_n (x := some 6) (pc2 := 18) d_St_takeFrom_17 rfl rfl ?_
  refine q_getR (x := some 8) (pc2 := 21) d_St_takeFrom_18 rfl k_St_15 rfl (sh_6 hS) (rf_6_1 hR) ?_
  refine r_iload_n (pc2 := 22) d_St_takeFrom_21 rfl rfl ?_
  refine q_iaload (q := i) (x := J 8 i) (pc2 := 23) d_St_takeFrom_22 rfl (sh_8 hS) (nI_toInt (by omega)) (by omega) (rd_ne hI1 (by decide)) ?_
  refine q_iastore (q := i) (pc2 := 24) d_St_takeFrom_23 rfl (sh_247 hS) (nI_toInt (by omega)) (by omega) (fun I2 hI2 => ?_)
  refine r_aload_n (x := some 245) (pc2 := 25) d_St_takeFrom_24 rfl rfl ?_
  refine q_getR (x := some 248) (pc2 := 28) d_St_takeFrom_25 rfl k_St_18 rfl (sh_245 hS) (rf_245_2 hR) ?_
  refine r_iload_n (pc2 := 29) d_St_takeFrom_28 rfl rfl ?_
  refine r_aload_n (x := some 6) (pc2 := 30) d_St_takeFrom_29 rfl rfl ?_
  refine q_getR (x := some 9) (pc2 := 33) d_St_takeFrom_30 rfl k_St_18 rfl (sh_6 hS) (rf_6_2 hR) ?_
  refine r_iload_n (pc2 := 34) d_St_takeFrom_33 rfl rfl ?_
  refine q_iaload (q := i) (x := J 9 i) (pc2 := 35) d_St_takeFrom_34 rfl (sh_9 hS) (nI_toInt (by omega)) (by omega) ((rd_ne hI2 (by decide)).trans (rd_ne hI1 (by decide))) ?_
  refine q_iastore (q := i) (pc2 := 36) d_St_takeFrom_35 rfl (sh_248 hS) (nI_toInt (by omega)) (by omega) (fun I3 hI3 => ?_)
  refine r_aload_n (x := some 245) (pc2 := 37) d_St_takeFrom_36 rfl rfl ?_
  refine q_getR (x := some 249) (pc2 := 40) d_St_takeFrom_37 rfl k_St_21 rfl (sh_245 hS) (rf_245_3 hR) ?_
  refine r_iload_n (pc2 := 41) d_St_takeFrom_40 rfl rfl ?_
  refine r_aload_n (x := some 6) (pc2 := 42) d_St_takeFrom_41 rfl rfl ?_
  refine q_getR (x := some 10) (pc2 := 45) d_St_takeFrom_42 rfl k_St_21 rfl (sh_6 hS) (rf_6_3 hR) ?_
  refine r_iload_n (pc2 := 46) d_St_takeFrom_45 rfl rfl ?_
  refine q_iaload (q := i) (x := J 10 i) (pc2 := 47) d_St_takeFrom_46 rfl (sh_10 hS) (nI_toInt (by omega)) (by omega) ((rd_ne hI3 (by decide)).trans ((rd_ne hI2 (by decide)).trans (rd_ne hI1 (by decide)))) ?_
  refine q_iastore (q := i) (pc2 := 48) d_St_takeFrom_47 rfl (sh_249 hS) (nI_toInt (by omega)) (by omega) (fun I4 hI4 => ?_)
  refine r_aload_n (x := some 245) (pc2 := 49) d_St_takeFrom_48 rfl rfl ?_
  refine q_getR (x := some 250) (pc2 := 52) d_St_takeFrom_49 rfl k_St_24 rfl (sh_245 hS) (rf_245_4 hR) ?_
  refine r_iload_n (pc2 := 53) d_St_takeFrom_52 rfl rfl ?_
  refine r_aload_n (x := some 6) (pc2 := 54) d_St_takeFrom_53 rfl rfl ?_
  refine q_getR (x := some 11) (pc2 := 57) d_St_takeFrom_54 rfl k_St_24 rfl (sh_6 hS) (rf_6_4 hR) ?_
  refine r_iload_n (pc2 := 58) d_St_takeFrom_57 rfl rfl ?_
  refine q_iaload (q := i) (x := J 11 i) (pc2 := 59) d_St_takeFrom_58 rfl (sh_11 hS) (nI_toInt (by omega)) (by omega) ((rd_ne hI4 (by decide)).trans ((rd_ne hI3 (by decide)).trans ((rd_ne hI2 (by decide)).trans (rd_ne hI1 (by decide))))) ?_
  refine q_iastore (q := i) (pc2 := 60) d_St_takeFrom_59 rfl (sh_250 hS) (nI_toInt (by omega)) (by omega) (fun I5 hI5 => ?_)
  refine Run.ret none d_St_takeFrom_60 rfl ?_
  exact ⟨rfl, _, rfl, tk5_eq 246 7 hI1 hI2 hI3 hI4 hI5⟩
theorem l_St_become_01 {d : Nat} {J : Nat → Nat → Int32} {R : Nat → Nat → Option Nat} {L : Nat → Nat → Int64} {sh : Nat → Nat × Nat} {N : Nat} (hS : ShOK sh) (hR : RfOK R) {nS : Nat} (hn : J 6 5 = nI nS) (hn24 : nS ≤ 24) (hd : 1 ≤ d) {Q : Option Value → HS → Prop} (hq : ∀ J1 K, SPF 246 7 nS J J1 → K = u2 J1 245 5 (nI nS) → Q none (K, R, L, sh, N)) : ∀ (n_ : Nat) (i : Nat) (J1 : Nat → Nat → Int32), nS - i = n_ → (SPF 246 7 i J J1) → (i ≤ nS) → Run mi_St_become d 0 0 2 [(0, .ref 245), (1, .ref 6), (2, .int (nI i))] [] (J1, R, L, sh, N) Q := by
  intro n_
  induction n_ using Nat.strongRecOn with | ind n_ ih_ => ?_
  intro i J1 hn_ v0_ v1_
  have hn1 : J1 6 5 = nI nS := (v0_.2 _ _ (by decide)).trans hn
  refine r_iload_n (pc2 := 3) d_St_become_2 rfl rfl ?_
  refine r_aload_n (x := some 6) (pc2 := 4) d_St_become_3 rfl rfl ?_
  refine q_getI (x := nI nS) (pc2 := 7) d_St_become_4 rfl k_St_27 (by decide) (sh_6 hS) hn1 ?_
  refine q_icmp_ge (tgt := 23) (A := ((i : Nat) : Int)) (B := ((nS : Nat) : Int)) (pc2 := 10) d_St_become_7 rfl rfl (nI_toInt (by omega)) (nI_toInt (by omega)) (fun c1 => ?_) (fun c1 => ?_)
  · refine r_aload_n (x := some 245) (pc2 := 24) d_St_become_23 rfl rfl ?_
    refine r_aload_n (x := some 6) (pc2 := 25) d_St_become_24 rfl rfl ?_
    refine q_getI (x := nI nS) (pc2 := 28) d_St_become_25 rfl k_St_27 (by decide) (sh_6 hS) hn1 ?_
    refine q_putI (pc2 := 31) d_St_become_28 rfl k_St_27 (Or.inl rfl) (sh_245 hS) (Or.inl rfl) (fun I2 hI2 => ?_)
    refine Run.ret none d_St_become_31 rfl ?_
    exact hq J1 _ (by rw [show nS = i by omega]; exact v0_) hI2
  · refine r_aload_n (x := some 245) (pc2 := 11) d_St_become_10 rfl rfl ?_
    refine r_aload_n (x := some 6) (pc2 := 12) d_St_become_11 rfl rfl ?_
    refine r_iload_n (pc2 := 13) d_St_become_12 rfl rfl ?_
    refine r_iload_n (pc2 := 14) d_St_become_13 rfl rfl ?_
    refine r_callv (M2 := mi_St_takeFrom) (pc2 := 17) d_St_become_14 rfl k_St_31 cm_St_takeFrom cv_St_takeFrom (sh_245 hS) (by decide) rfl rfl rfl (Nat.le_of_ble_eq_true rfl) (c_St_takeFrom_01 (J := J1) hS hR (i := i) (by omega)) (d2 := d - 1) (by omega) (Nat.le_of_eq (Nat.zero_add _)) (Nat.le_of_eq (Nat.zero_add _)) (fun r2 h2 hq2 => ?_)
    obtain ⟨rfl, K3, rfl, hK3⟩ := hq2
    change Run _ _ _ _ _ _ [] _ _
    refine q_iinc (b := 1) (pc2 := 20) d_St_become_17 rfl rfl (by decide) (Nat.le_of_ble_eq_true rfl) ?_
    refine r_goto (tgt := 2) d_St_become_20 rfl ?_
    refine Run.sub (l2 := [(0, .ref 245), (1, .ref 6), (2, .int (nI (i + 1)))]) ⟨rfl, rfl, rfl, trivial⟩ ?_
    exact ih_ (nS - (i + 1)) (by omega) (i + 1) K3 rfl (by rw [hK3]; exact SPF.s (by decide) v0_) (by omega)
theorem c_St_become_01 {d : Nat} {J : Nat → Nat → Int32} {R : Nat → Nat → Option Nat} {L : Nat → Nat → Int64} {sh : Nat → Nat × Nat} {N : Nat} (hS : ShOK sh) (hR : RfOK R) {nS : Nat} (hn : J 6 5 = nI nS) (hn24 : nS ≤ 24) (hd : 1 ≤ d) : Mt mi_St_become d 0 0 [.ref 245, .ref 6] (J, R, L, sh, N) (fun x h2 => x = none ∧ ∃ J1 K, h2 = (K, R, L, sh, N) ∧ SPF 246 7 nS J J1 ∧ K = u2 J1 245 5 (nI nS)) := by
  refine Mt.of pn_St (Nat.le_of_ble_eq_true rfl) ?_
  show Run mi_St_become d 0 0 0 [(0, .ref 245), (1, .ref 6)] [] (J, R, L, sh, N) _
  refine r_iconst (v := nI 0) (pc2 := 1) d_St_become_0 rfl (by decide) ?_
  refine r_istore_n (pc2 := 2) d_St_become_1 rfl rfl (Nat.le_of_ble_eq_true rfl) ?_
  refine Run.sub (l2 := [(0, .ref 245), (1, .ref 6), (2, .int (nI 0))]) ⟨rfl, rfl, rfl, trivial⟩ ?_
  exact l_St_become_01 hS hR hn hn24 hd (fun J1 K a b => ⟨rfl, J1, K, rfl, a, b⟩) _ 0 J rfl ⟨fun _ _ _ h => by omega, fun _ _ _ => rfl⟩ (Nat.zero_le _)
theorem l_De_become_01 {d : Nat} {P3 : Nat → Nat → Int32} {R : Nat → Nat → Option Nat} {L : Nat → Nat → Int64} {sh : Nat → Nat × Nat} {N : Nat} (hS : ShOK sh) (hR : RfOK R) (hd : 12 ≤ d) {Q : Option Value → HS → Prop} (hk : ∀ J1 R1, BFt 0 1 12 P3 J1 R R1 → RfOK R1 → Run mi_De_become d 0 0 40 [(0, .ref 240), (1, .ref 1)] [] (J1, R1, L, sh, N) Q) : ∀ (n_ : Nat) (i : Nat) (J1 : Nat → Nat → Int32) (R1 : Nat → Nat → Option Nat), 12 - i = n_ → (BFt 0 1 i P3 J1 R R1) → (RfOK R1) → (i ≤ 12) → Run mi_De_become d 0 0 13 [(0, .ref 240), (1, .ref 1), (2, .int (nI i))] [] (J1, R1, L, sh, N) Q := by
  intro n_
  induction n_ using Nat.strongRecOn with | ind n_ ih_ => ?_
  intro i J1 R1 hn_ v0_ v1_ v2_
  refine r_iload_n (pc2 := 14) d_De_become_13 rfl rfl ?_
  refine r_bipush (v := nI 12) (pc2 := 16) d_De_become_14 rfl (by decide) ?_
  refine q_icmp_ge (tgt := 40) (A := ((i : Nat) : Int)) (B := (12 : Int)) (pc2 := 19) d_De_become_16 rfl rfl (nI_toInt (by omega)) (nI_toInt (by omega)) (fun c1 => ?_) (fun c1 => ?_)
  · refine Run.sub (l2 := [(0, .ref 240), (1, .ref 1)]) ⟨rfl, rfl, trivial⟩ ?_
    rw [show i = 12 by omega] at v0_; exact hk J1 R1 v0_ v1_
  · refine r_aload_n (x := some 240) (pc2 := 20) d_De_become_19 rfl rfl ?_
    refine q_getR (x := some 244) (pc2 := 23) d_De_become_20 rfl k_De_20 rfl (sh_240 hS) (rf_240_1 v1_) ?_
    refine r_iload_n (pc2 := 24) d_De_become_23 rfl rfl ?_
    refine q_aaload (q := i) (x := some (fe 1 i)) (pc2 := 25) d_De_become_24 rfl (sh_244 hS) (by decide) (by decide) (nI_toInt (by omega)) (by omega) (rf_fe v1_ (show 1 < 3 by decide) (show i < 12 by omega)) ?_
    refine r_aload_n (x := some 1) (pc2 := 26) d_De_become_25 rfl rfl ?_
    refine q_getR (x := some 5) (pc2 := 29) d_De_become_26 rfl k_De_20 rfl (sh_1 hS) (rf_1_1 v1_) ?_
    refine r_iload_n (pc2 := 30) d_De_become_29 rfl rfl ?_
    refine q_aaload (q := i) (x := some (fe 0 i)) (pc2 := 31) d_De_become_30 rfl (sh_5 hS) (by decide) (by decide) (nI_toInt (by omega)) (by omega) (rf_fe v1_ (show 0 < 3 by decide) (show i < 12 by omega)) ?_
    refine r_callv (M2 := mi_Fe_become) (pc2 := 34) d_De_become_31 rfl k_De_49 cm_Fe_become cv_Fe_become (sh_fe0 hS (show 1 < 3 by decide) (show i < 12 by omega)) (by decide) rfl rfl rfl (Nat.le_of_ble_eq_true rfl) (c_Fe_become (I := J1) (R := R1) hS v1_ (s := 0) (t := 1) (F := i) (by decide) (by decide) (by decide) (by omega) (d := d - 1) (by omega)) (d2 := d - 1) (by omega) (Nat.le_of_eq (Nat.zero_add _)) (Nat.le_of_eq (Nat.zero_add _)) (fun r2 h2 hq2 => ?_)
    obtain ⟨rfl, K, R2, rfl, hc1, hb1, hr2⟩ := hq2
    change Run _ _ _ _ _ _ [] _ _
    refine q_iinc (b := 1) (pc2 := 37) d_De_become_34 rfl rfl (by decide) (Nat.le_of_ble_eq_true rfl) ?_
    refine r_goto (tgt := 13) d_De_become_37 rfl ?_
    refine Run.sub (l2 := [(0, .ref 240), (1, .ref 1), (2, .int (nI (i + 1)))]) ⟨rfl, rfl, rfl, trivial⟩ ?_
    exact ih_ (12 - (i + 1)) (by omega) (i + 1) K R2 rfl (BFt.s (by decide) (by decide) (by decide) (by omega) v0_ hc1 hb1) (hr2) (by omega)
theorem c_De_become_01 {d : Nat} {I : Nat → Nat → Int32} {R : Nat → Nat → Option Nat} {L : Nat → Nat → Int64} {sh : Nat → Nat × Nat} {N : Nat} (hS : ShOK sh) (hR : RfOK R) {tK tF tC tS : Nat → Int32} {nt : Nat} {G : Nat → Int32} {nP nF nS : Nat} (hW : WFA G nP nF nt) (hS24 : nS ≤ 24) (hD : DR tK tF tC tS I R sh nt 0 G nP nF nS) (hd : 14 ≤ d) : Mt mi_De_become d 0 0 [.ref 240, .ref 1] (I, R, L, sh, N) (fun x h2 => x = none ∧ ∃ K R1, h2 = (K, R1, L, sh, N) ∧ FrE 1 I K ∧ BR 1 R R1 ∧ DR tK tF tC tS K R1 sh nt 1 G nP nF nS) := by
  refine Mt.of pn_De (Nat.le_of_ble_eq_true rfl) ?_
  show Run mi_De_become d 0 0 0 [(0, .ref 240), (1, .ref 1)] [] (I, R, L, sh, N) _
  refine r_aload_n (x := some 240) (pc2 := 1) d_De_become_0 rfl rfl ?_
  refine q_getR (x := some 241) (pc2 := 4) d_De_become_1 rfl k_De_12 rfl (sh_240 hS) (rf_240_0 hR) ?_
  refine r_aload_n (x := some 1) (pc2 := 5) d_De_become_4 rfl rfl ?_
  refine q_getR (x := some 2) (pc2 := 8) d_De_become_5 rfl k_De_12 rfl (sh_1 hS) (rf_1_0 hR) ?_
  refine r_callv (M2 := mi_Pe_become) (pc2 := 11) d_De_become_8 rfl k_De_45 cm_Pe_become cv_Pe_become (sh_241 hS) (by decide) rfl rfl rfl (Nat.le_of_ble_eq_true rfl) (c_Pe_become_01 (J := I) hS hR (d := d - 1) (by omega)) (d2 := d - 1) (by omega) (Nat.le_of_eq (Nat.zero_add _)) (Nat.le_of_eq (Nat.zero_add _)) (fun r2 h2 hq2 => ?_)
  obtain ⟨rfl, P1, P2, P3, rfl, hP1, hP2, hP3⟩ := hq2
  change Run _ _ _ _ _ _ [] _ _
  have hPo : ∀ a j, a ≠ 241 → a ≠ 242 → a ≠ 243 → P3 a j = I a j := fun a j h1 h2 h3 => by rw [rd_ne hP3 h1, cpy_o hP2 h3, cpy_o hP1 h2]
  refine r_iconst (v := nI 0) (pc2 := 12) d_De_become_11 rfl (by decide) ?_
  refine r_istore_n (pc2 := 13) d_De_become_12 rfl rfl (Nat.le_of_ble_eq_true rfl) ?_
  refine Run.sub (l2 := [(0, .ref 240), (1, .ref 1), (2, .int (nI 0))]) ⟨rfl, rfl, rfl, trivial⟩ ?_
  refine l_De_become_01 hS hR (by omega) (hk := fun J1 R1 hF hR1 => ?_) _ 0 P3 R rfl BFt.rf hR (Nat.zero_le _)
  have hF1 : ∀ a j, (¬ (251 ≤ a ∧ a < 479)) → J1 a j = P3 a j := fun a j h => hF.2.1 a j (by unfold fe; omega)
  skip
  refine r_aload_n (x := some 240) (pc2 := 41) d_De_become_40 rfl rfl ?_
  refine r_aload_n (x := some 1) (pc2 := 42) d_De_become_41 rfl rfl ?_
  refine q_getI (x := I 1 2) (pc2 := 45) d_De_become_42 rfl k_De_24 (by decide) (sh_1 hS) ((hF1 1 2 (by decide)).trans (hPo 1 2 (by decide) (by decide) (by decide))) ?_
  refine q_putI (pc2 := 48) d_De_become_45 rfl k_De_24 (Or.inl rfl) (sh_240 hS) (Or.inl rfl) (fun I1 hI1 => ?_)
  have hF2 : ∀ a j, (¬ (251 ≤ a ∧ a < 479)) → a ≠ 240 → (a ≠ 241 ∧ a ≠ 242 ∧ a ≠ 243) → I1 a j = I a j := fun a j h h0 h1 => (rd_ne hI1 h0).trans ((hF1 a j h).trans (hPo a j h1.1 h1.2.1 h1.2.2))
  refine r_aload_n (x := some 240) (pc2 := 49) d_De_become_48 rfl rfl ?_
  refine q_getR (x := some 245) (pc2 := 52) d_De_become_49 rfl k_De_31 rfl (sh_240 hS) (rf_240_3 hR1) ?_
  refine r_aload_n (x := some 1) (pc2 := 53) d_De_become_52 rfl rfl ?_
  refine q_getR (x := some 6) (pc2 := 56) d_De_become_53 rfl k_De_31 rfl (sh_1 hS) (rf_1_3 hR1) ?_
  refine r_callv (M2 := mi_St_become) (pc2 := 59) d_De_become_56 rfl k_De_52 cm_St_become cv_St_become (sh_245 hS) (by decide) rfl rfl rfl (Nat.le_of_ble_eq_true rfl) (c_St_become_01 (J := I1) (R := R1) hS hR1 (nS := nS) ((rd_ne hI1 (by decide)).trans ((hF1 6 5 (by decide)).trans ((hPo 6 5 (by decide) (by decide) (by decide)).trans hD.1.2.2.2.2.2))) hS24 (d := d - 1) (by omega)) (d2 := d - 1) (by omega) (Nat.le_of_eq (Nat.zero_add _)) (Nat.le_of_eq (Nat.zero_add _)) (fun r2 h2 hq2 => ?_)
  obtain ⟨rfl, S1, S2, rfl, hS1, hS2⟩ := hq2
  change Run _ _ _ _ _ _ [] _ _
  have hSo : ∀ a j, ¬ (245 ≤ a ∧ a < 251) → S2 a j = I1 a j := fun a j q => by rw [rd_ne hS2 (by omega)]; exact hS1.2 a j (by omega)
  refine r_aload_n (x := some 240) (pc2 := 60) d_De_become_59 rfl rfl ?_
  refine r_aload_n (x := some 1) (pc2 := 61) d_De_become_60 rfl rfl ?_
  refine q_getI (x := I 1 4) (pc2 := 64) d_De_become_61 rfl k_De_35 (by decide) (sh_1 hS) ((hSo 1 4 (by decide)).trans (hF2 1 4 (by decide) (by decide) (by decide))) ?_
  refine q_putI (pc2 := 67) d_De_become_64 rfl k_De_35 (Or.inl rfl) (sh_240 hS) (Or.inl rfl) (fun I2 hI2 => ?_)
  refine r_aload_n (x := some 240) (pc2 := 68) d_De_become_67 rfl rfl ?_
  refine r_aload_n (x := some 1) (pc2 := 69) d_De_become_68 rfl rfl ?_
  refine q_getI (x := I 1 5) (pc2 := 72) d_De_become_69 rfl k_De_38 (by decide) (sh_1 hS) ((rd_ne hI2 (by decide)).trans ((hSo 1 5 (by decide)).trans (hF2 1 5 (by decide) (by decide) (by decide)))) ?_
  refine q_putI (pc2 := 75) d_De_become_72 rfl k_De_38 (Or.inl rfl) (sh_240 hS) (Or.inl rfl) (fun I3 hI3 => ?_)
  refine r_aload_n (x := some 240) (pc2 := 76) d_De_become_75 rfl rfl ?_
  refine r_aload_n (x := some 1) (pc2 := 77) d_De_become_76 rfl rfl ?_
  refine q_getI (x := I 1 6) (pc2 := 80) d_De_become_77 rfl k_De_41 (by decide) (sh_1 hS) ((rd_ne hI3 (by decide)).trans ((rd_ne hI2 (by decide)).trans ((hSo 1 6 (by decide)).trans (hF2 1 6 (by decide) (by decide) (by decide))))) ?_
  refine q_putI (pc2 := 83) d_De_become_80 rfl k_De_41 (Or.inl rfl) (sh_240 hS) (Or.inl rfl) (fun I4 hI4 => ?_)
  refine Run.ret none d_De_become_83 rfl ?_
  have hK : ∀ a j, a ≠ 240 → I4 a j = S2 a j := fun a j h => by rw [rd_ne hI4 h, rd_ne hI3 h, rd_ne hI2 h]
  have hQ1 : ∀ a j, a ≠ 240 → I1 a j = J1 a j := fun a j h => rd_ne hI1 h
  have hall : ∀ a j, ¬ (240 ≤ a ∧ a < 479) → I4 a j = I a j := fun a j h => (hK a j (by omega)).trans ((hSo a j (by omega)).trans ((hQ1 a j (by omega)).trans ((hF1 a j (by omega)).trans (hPo a j (by omega) (by omega) (by omega)))))
  have hallR : ∀ a j, ¬ (240 ≤ a ∧ a < 479) → R1 a j = R a j := fun a j h => hF.2.2 a j (by unfold fe; omega)
  refine ⟨rfl, I4, R1, rfl, fun a j q => hall a j (by unfold dk at q; omega), ⟨fun a j q => hallR a j (by unfold dk at q; omega), fun _ => hR1⟩, DR.bec (s := 0) hW hD (fun a j h _ => hall a j (by omega)) (fun a j h => hallR a j (by omega)) ?_ ?_ ?_ ?_ ?_ ?_ (fun j hj => ⟨?_, ?_⟩) (fun c i hc hi => ?_) (fun E hE c j hc hp => ?_) (fun E hE r hr => (hF.1 E hE).2 r hr)⟩
  · exact (hK 241 2 (by decide)).trans (((hSo 241 2 (by decide)).trans ((hQ1 241 2 (by decide)).trans (hF1 241 2 (by decide)))).trans (rd_eq hP3))
  · show I4 240 2 = I 1 2
    rw [rd_nk hI4 (by decide), rd_nk hI3 (by decide), rd_nk hI2 (by decide), hSo 240 2 (by decide), rd_eq hI1]
  · show I4 240 4 = I 1 4
    rw [rd_nk hI4 (by decide), rd_nk hI3 (by decide), rd_eq hI2]
  · show I4 240 5 = I 1 5
    rw [rd_nk hI4 (by decide), rd_eq hI3]
  · show I4 240 6 = I 1 6
    rw [rd_eq hI4]
  · show I4 245 5 = I 6 5
    rw [hK 245 5 (by decide), rd_eq hS2]; exact hD.1.2.2.2.2.2.symm
  · show I4 242 j = I 3 j
    rw [hK 242 j (by decide), hSo 242 j (by decide), hQ1 242 j (by decide), hF1 242 j (by decide), rd_ne hP3 (by decide)]
    rw [cpy_o hP2 (by decide)]; exact cpy_i hP1 hj
  · show I4 243 j = I 4 j
    rw [hK 243 j (by decide), hSo 243 j (by decide), hQ1 243 j (by decide), hF1 243 j (by decide), rd_ne hP3 (by decide)]
    rw [cpy_i hP2 hj]; exact cpy_o hP1 (by decide)
  · show I4 (246 + c) i = I (7 + c) i
    rw [hK _ i (by omega), rd_ne hS2 (by omega), hS1.1 c i hc hi, hQ1 _ i (by omega), hF1 _ i (by omega)]; exact hPo _ i (by omega) (by omega) (by omega)
  · have hfe : 251 ≤ fe 1 E ∧ fe 1 E + 19 ≤ 479 := by unfold fe; omega
    have hfs : 12 ≤ fe 0 E ∧ fe 0 E + 19 ≤ 240 := by unfold fe; omega
    rw [hK _ j (by omega), hSo _ j (by omega), hQ1 _ j (by omega), (hF.1 E hE).1 c j hc hp]; exact hPo _ j (by omega) (by omega) (by omega)
theorem c_Pe_become_10 {d : Nat} {J : Nat → Nat → Int32} {R : Nat → Nat → Option Nat} {L : Nat → Nat → Int64} {sh : Nat → Nat × Nat} {N : Nat} (hS : ShOK sh) (hR : RfOK R) (hd : 1 ≤ d) : Mt mi_Pe_become d 0 0 [.ref 2, .ref 241] (J, R, L, sh, N) (fun x h2 => x = none ∧ ∃ K1 K2 K, h2 = (K, R, L, sh, N) ∧ K1 = cpyI J 242 0 3 0 24 ∧ K2 = cpyI K1 243 0 4 0 24 ∧ K = u2 K2 2 2 (J 241 2)) := by
  refine Mt.of pn_Pe (Nat.le_of_ble_eq_true rfl) ?_
  show Run mi_Pe_become d 0 0 0 [(0, .ref 2), (1, .ref 241)] [] (J, R, L, sh, N) _
  refine r_aload_n (x := some 241) (pc2 := 1) d_Pe_become_0 rfl rfl ?_
  refine q_getR (x := some 242) (pc2 := 4) d_Pe_become_1 rfl k_Pe_9 rfl (sh_241 hS) (rf_241_0 hR) ?_
  refine r_iconst (v := nI 0) (pc2 := 5) d_Pe_become_4 rfl (by decide) ?_
  refine r_aload_n (x := some 2) (pc2 := 6) d_Pe_become_5 rfl rfl ?_
  refine q_getR (x := some 3) (pc2 := 9) d_Pe_become_6 rfl k_Pe_9 rfl (sh_2 hS) (rf_2_0 hR) ?_
  refine r_iconst (v := nI 0) (pc2 := 10) d_Pe_become_9 rfl (by decide) ?_
  refine r_bipush (v := nI 24) (pc2 := 12) d_Pe_become_10 rfl (by decide) ?_
  refine r_copyI (SP := 0) (DP := 0) (K := 24) (pc2 := 15) d_Pe_become_12 rfl k_Pe_22 ac_native ac_static iw_JS (sh_242 hS) (sh_3 hS) (nI_toInt (by omega)) (nI_toInt (by omega)) (nI_toInt (by omega)) (by omega) (by omega) (by omega) (Nat.le_of_ble_eq_true rfl) ?_
  obtain ⟨K1, hK1⟩ : ∃ x, x = cpyI J 242 0 3 0 24 := ⟨_, rfl⟩
  rw [← hK1]
  refine r_aload_n (x := some 241) (pc2 := 16) d_Pe_become_15 rfl rfl ?_
  refine q_getR (x := some 243) (pc2 := 19) d_Pe_become_16 rfl k_Pe_15 rfl (sh_241 hS) (rf_241_1 hR) ?_
  refine r_iconst (v := nI 0) (pc2 := 20) d_Pe_become_19 rfl (by decide) ?_
  refine r_aload_n (x := some 2) (pc2 := 21) d_Pe_become_20 rfl rfl ?_
  refine q_getR (x := some 4) (pc2 := 24) d_Pe_become_21 rfl k_Pe_15 rfl (sh_2 hS) (rf_2_1 hR) ?_
  refine r_iconst (v := nI 0) (pc2 := 25) d_Pe_become_24 rfl (by decide) ?_
  refine r_bipush (v := nI 24) (pc2 := 27) d_Pe_become_25 rfl (by decide) ?_
  refine r_copyI (SP := 0) (DP := 0) (K := 24) (pc2 := 30) d_Pe_become_27 rfl k_Pe_22 ac_native ac_static iw_JS (sh_243 hS) (sh_4 hS) (nI_toInt (by omega)) (nI_toInt (by omega)) (nI_toInt (by omega)) (by omega) (by omega) (by omega) (Nat.le_of_ble_eq_true rfl) ?_
  obtain ⟨K2, hK2⟩ : ∃ x, x = cpyI K1 243 0 4 0 24 := ⟨_, rfl⟩
  rw [← hK2]
  refine r_aload_n (x := some 2) (pc2 := 31) d_Pe_become_30 rfl rfl ?_
  refine r_aload_n (x := some 241) (pc2 := 32) d_Pe_become_31 rfl rfl ?_
  have hcn : K2 241 2 = J 241 2 := (cpy_o hK2 (by decide)).trans (cpy_o hK1 (by decide))
  refine q_getI (x := J 241 2) (pc2 := 35) d_Pe_become_32 rfl k_Pe_18 (by decide) (sh_241 hS) hcn ?_
  refine q_putI (pc2 := 38) d_Pe_become_35 rfl k_Pe_18 (Or.inl rfl) (sh_2 hS) (Or.inl rfl) (fun I3 hI3 => ?_)
  refine Run.ret none d_Pe_become_38 rfl ?_
  exact ⟨rfl, _, _, _, rfl, rfl, hK2, hI3⟩
theorem c_St_takeFrom_10 {d : Nat} {J : Nat → Nat → Int32} {R : Nat → Nat → Option Nat} {L : Nat → Nat → Int64} {sh : Nat → Nat × Nat} {N : Nat} (hS : ShOK sh) (hR : RfOK R) {i : Nat} (hi : i < 24) : Mt mi_St_takeFrom d 0 0 [.ref 6, .ref 245, .int (nI i), .int (nI i)] (J, R, L, sh, N) (fun x h2 => x = none ∧ ∃ K, h2 = (K, R, L, sh, N) ∧ K = tk5 J 7 246 i i) := by
  refine Mt.of pn_St (Nat.le_of_ble_eq_true rfl) ?_
  show Run mi_St_takeFrom d 0 0 0 [(0, .ref 6), (1, .ref 245), (2, .int (nI i)), (3, .int (nI i))] [] (J, R, L, sh, N) _
  refine r_aload_n (x := some 6) (pc2 := 1) d_St_takeFrom_0 rfl rfl ?_
  refine q_getR (x := some 7) (pc2 := 4) d_St_takeFrom_1 rfl k_St_9 rfl (sh_6 hS) (rf_6_0 hR) ?_
  refine r_iload_n (pc2 := 5) d_St_takeFrom_4 rfl rfl ?_
  refine r_aload_n (x := some 245) (pc2 := 6) d_St_takeFrom_5 rfl rfl ?_
  refine q_getR (x := some 246) (pc2 := 9) d_St_takeFrom_6 rfl k_St_9 rfl (sh_245 hS) (rf_245_0 hR) ?_
  refine r_iload_n (pc2 := 10) d_St_takeFrom_9 rfl rfl ?_
  refine q_iaload (q := i) (x := J 246 i) (pc2 := 11) d_St_takeFrom_10 rfl (sh_246 hS) (nI_toInt (by omega)) (by omega) rfl ?_
  refine q_iastore (q := i) (pc2 := 12) d_St_takeFrom_11 rfl (sh_7 hS) (nI_toInt (by omega)) (by omega) (fun I1 hI1 => ?_)
  refine r_aload_n (x := some 6) (pc2 := 13) d_St_takeFrom_12 rfl rfl ?_
  refine q_getR (x := some 8) (pc2 := 16) d_St_takeFrom_13 rfl k_St_15 rfl (sh_6 hS) (rf_6_1 hR) ?_
  refine r_iload_n (pc2 := 17) d_St_takeFrom_16 rfl rfl ?_
  refine r_aload_n (x := some 245) (pc2 := 18) d_St_takeFrom_17 rfl rfl ?_
  refine q_getR (x := some 247) (pc2 := 21) d_St_takeFrom_18 rfl k_St_15 rfl (sh_245 hS) (rf_245_1 hR) ?_
  refine r_iload_n (pc2 := 22) d_St_takeFrom_21 rfl rfl ?_
  refine q_iaload (q := i) (x := J 247 i) (pc2 := 23) d_St_takeFrom_22 rfl (sh_247 hS) (nI_toInt (by omega)) (by omega) (rd_ne hI1 (by decide)) ?_
  refine q_iastore (q := i) (pc2 := 24) d_St_takeFrom_23 rfl (sh_8 hS) (nI_toInt (by omega)) (by omega) (fun I2 hI2 => ?_)
  refine r_aload_n (x := some 6) (pc2 := 25) d_St_takeFrom_24 rfl rfl ?_
  refine q_getR (x := some 9) (pc2 := 28) d_St_takeFrom_25 rfl k_St_18 rfl (sh_6 hS) (rf_6_2 hR) ?_
  refine r_iload_n (pc2 := 29) d_St_takeFrom_28 rfl rfl ?_
  refine r_aload_n (x := some 245) (pc2 := 30) d_St_takeFrom_29 rfl rfl ?_
  refine q_getR (x := some 248) (pc2 := 33) d_St_takeFrom_30 rfl k_St_18 rfl (sh_245 hS) (rf_245_2 hR) ?_
  refine r_iload_n (pc2 := 34) d_St_takeFrom_33 rfl rfl ?_
  refine q_iaload (q := i) (x := J 248 i) (pc2 := 35) d_St_takeFrom_34 rfl (sh_248 hS) (nI_toInt (by omega)) (by omega) ((rd_ne hI2 (by decide)).trans (rd_ne hI1 (by decide))) ?_
  refine q_iastore (q := i) (pc2 := 36) d_St_takeFrom_35 rfl (sh_9 hS) (nI_toInt (by omega)) (by omega) (fun I3 hI3 => ?_)
  refine r_aload_n (x := some 6) (pc2 := 37) d_St_takeFrom_36 rfl rfl ?_
  refine q_getR (x := some 10) (pc2 := 40) d_St_takeFrom_37 rfl k_St_21 rfl (sh_6 hS) (rf_6_3 hR) ?_
  refine r_iload_n (pc2 := 41) d_St_takeFrom_40 rfl rfl ?_
  refine r_aload_n (x := some 245) (pc2 := 42) d_St_takeFrom_41 rfl rfl ?_
  refine q_getR (x := some 249) (pc2 := 45) d_St_takeFrom_42 rfl k_St_21 rfl (sh_245 hS) (rf_245_3 hR) ?_
  refine r_iload_n (pc2 := 46) d_St_takeFrom_45 rfl rfl ?_
  refine q_iaload (q := i) (x := J 249 i) (pc2 := 47) d_St_takeFrom_46 rfl (sh_249 hS) (nI_toInt (by omega)) (by omega) ((rd_ne hI3 (by decide)).trans ((rd_ne hI2 (by decide)).trans (rd_ne hI1 (by decide)))) ?_
  refine q_iastore (q := i) (pc2 := 48) d_St_takeFrom_47 rfl (sh_10 hS) (nI_toInt (by omega)) (by omega) (fun I4 hI4 => ?_)
  refine r_aload_n (x := some 6) (pc2 := 49) d_St_takeFrom_48 rfl rfl ?_
  refine q_getR (x := some 11) (pc2 := 52) d_St_takeFrom_49 rfl k_St_24 rfl (sh_6 hS) (rf_6_4 hR) ?_
  refine r_iload_n (pc2 := 53) d_St_takeFrom_52 rfl rfl ?_
  refine r_aload_n (x := some 245) (pc2 := 54) d_St_takeFrom_53 rfl rfl ?_
  refine q_getR (x := some 250) (pc2 := 57) d_St_takeFrom_54 rfl k_St_24 rfl (sh_245 hS) (rf_245_4 hR) ?_
  refine r_iload_n (pc2 := 58) d_St_takeFrom_57 rfl rfl ?_
  refine q_iaload (q := i) (x := J 250 i) (pc2 := 59) d_St_takeFrom_58 rfl (sh_250 hS) (nI_toInt (by omega)) (by omega) ((rd_ne hI4 (by decide)).trans ((rd_ne hI3 (by decide)).trans ((rd_ne hI2 (by decide)).trans (rd_ne hI1 (by decide))))) ?_
  refine q_iastore (q := i) (pc2 := 60) d_St_takeFrom_59 rfl (sh_11 hS) (nI_toInt (by omega)) (by omega) (fun I5 hI5 => ?_)
  refine Run.ret none d_St_takeFrom_60 rfl ?_
  exact ⟨rfl, _, rfl, tk5_eq 7 246 hI1 hI2 hI3 hI4 hI5⟩
theorem l_St_become_10 {d : Nat} {J : Nat → Nat → Int32} {R : Nat → Nat → Option Nat} {L : Nat → Nat → Int64} {sh : Nat → Nat × Nat} {N : Nat} (hS : ShOK sh) (hR : RfOK R) {nS : Nat} (hn : J 245 5 = nI nS) (hn24 : nS ≤ 24) (hd : 1 ≤ d) {Q : Option Value → HS → Prop} (hq : ∀ J1 K, SPF 7 246 nS J J1 → K = u2 J1 6 5 (nI nS) → Q none (K, R, L, sh, N)) : ∀ (n_ : Nat) (i : Nat) (J1 : Nat → Nat → Int32), nS - i = n_ → (SPF 7 246 i J J1) → (i ≤ nS) → Run mi_St_become d 0 0 2 [(0, .ref 6), (1, .ref 245), (2, .int (nI i))] [] (J1, R, L, sh, N) Q := by
  intro n_
  induction n_ using Nat.strongRecOn with | ind n_ ih_ => ?_
  intro i J1 hn_ v0_ v1_
  have hn1 : J1 245 5 = nI nS := (v0_.2 _ _ (by decide)).trans hn
  refine r_iload_n (pc2 := 3) d_St_become_2 rfl rfl ?_
  refine r_aload_n (x := some 245) (pc2 := 4) d_St_become_3 rfl rfl ?_
  refine q_getI (x := nI nS) (pc2 := 7) d_St_become_4 rfl k_St_27 (by decide) (sh_245 hS) hn1 ?_
  refine q_icmp_ge (tgt := 23) (A := ((i : Nat) : Int)) (B := ((nS : Nat) : Int)) (pc2 := 10) d_St_become_7 rfl rfl (nI_toInt (by omega)) (nI_toInt (by omega)) (fun c1 => ?_) (fun c1 => ?_)
  · refine r_aload_n (x := some 6) (pc2 := 24) d_St_become_23 rfl rfl ?_
    refine r_aload_n (x := some 245) (pc2 := 25) d_St_become_24 rfl rfl ?_
    refine q_getI (x := nI nS) (pc2 := 28) d_St_become_25 rfl k_St_27 (by decide) (sh_245 hS) hn1 ?_
    refine q_putI (pc2 := 31) d_St_become_28 rfl k_St_27 (Or.inl rfl) (sh_6 hS) (Or.inl rfl) (fun I2 hI2 => ?_)
    refine Run.ret none d_St_become_31 rfl ?_
    exact hq J1 _ (by rw [show nS = i by omega]; exact v0_) hI2
  · refine r_aload_n (x := some 6) (pc2 := 11) d_St_become_10 rfl rfl ?_
    refine r_aload_n (x := some 245) (pc2 := 12) d_St_become_11 rfl rfl ?_
    refine r_iload_n (pc2 := 13) d_St_become_12 rfl rfl ?_
    refine r_iload_n (pc2 := 14) d_St_become_13 rfl rfl ?_
    refine r_callv (M2 := mi_St_takeFrom) (pc2 := 17) d_St_become_14 rfl k_St_31 cm_St_takeFrom cv_St_takeFrom (sh_6 hS) (by decide) rfl rfl rfl (Nat.le_of_ble_eq_true rfl) (c_St_takeFrom_10 (J := J1) hS hR (i := i) (by omega)) (d2 := d - 1) (by omega) (Nat.le_of_eq (Nat.zero_add _)) (Nat.le_of_eq (Nat.zero_add _)) (fun r2 h2 hq2 => ?_)
    obtain ⟨rfl, K3, rfl, hK3⟩ := hq2
    change Run _ _ _ _ _ _ [] _ _
    refine q_iinc (b := 1) (pc2 := 20) d_St_become_17 rfl rfl (by decide) (Nat.le_of_ble_eq_true rfl) ?_
    refine r_goto (tgt := 2) d_St_become_20 rfl ?_
    refine Run.sub (l2 := [(0, .ref 6), (1, .ref 245), (2, .int (nI (i + 1)))]) ⟨rfl, rfl, rfl, trivial⟩ ?_
    exact ih_ (nS - (i + 1)) (by omega) (i + 1) K3 rfl (by rw [hK3]; exact SPF.s (by decide) v0_) (by omega)
theorem c_St_become_10 {d : Nat} {J : Nat → Nat → Int32} {R : Nat → Nat → Option Nat} {L : Nat → Nat → Int64} {sh : Nat → Nat × Nat} {N : Nat} (hS : ShOK sh) (hR : RfOK R) {nS : Nat} (hn : J 245 5 = nI nS) (hn24 : nS ≤ 24) (hd : 1 ≤ d) : Mt mi_St_become d 0 0 [.ref 6, .ref 245] (J, R, L, sh, N) (fun x h2 => x = none ∧ ∃ J1 K, h2 = (K, R, L, sh, N) ∧ SPF 7 246 nS J J1 ∧ K = u2 J1 6 5 (nI nS)) := by
  refine Mt.of pn_St (Nat.le_of_ble_eq_true rfl) ?_
  show Run mi_St_become d 0 0 0 [(0, .ref 6), (1, .ref 245)] [] (J, R, L, sh, N) _
  refine r_iconst (v := nI 0) (pc2 := 1) d_St_become_0 rfl (by decide) ?_
  refine r_istore_n (pc2 := 2) d_St_become_1 rfl rfl (Nat.le_of_ble_eq_true rfl) ?_
  refine Run.sub (l2 := [(0, .ref 6), (1, .ref 245), (2, .int (nI 0))]) ⟨rfl, rfl, rfl, trivial⟩ ?_
  exact l_St_become_10 hS hR hn hn24 hd (fun J1 K a b => ⟨rfl, J1, K, rfl, a, b⟩) _ 0 J rfl ⟨fun _ _ _ h => by omega, fun _ _ _ => rfl⟩ (Nat.zero_le _)
theorem l_De_become_10 {d : Nat} {P3 : Nat → Nat → Int32} {R : Nat → Nat → Option Nat} {L : Nat → Nat → Int64} {sh : Nat → Nat × Nat} {N : Nat} (hS : ShOK sh) (hR : RfOK R) (hd : 12 ≤ d) {Q : Option Value → HS → Prop} (hk : ∀ J1 R1, BFt 1 0 12 P3 J1 R R1 → RfOK R1 → Run mi_De_become d 0 0 40 [(0, .ref 1), (1, .ref 240)] [] (J1, R1, L, sh, N) Q) : ∀ (n_ : Nat) (i : Nat) (J1 : Nat → Nat → Int32) (R1 : Nat → Nat → Option Nat), 12 - i = n_ → (BFt 1 0 i P3 J1 R R1) → (RfOK R1) → (i ≤ 12) → Run mi_De_become d 0 0 13 [(0, .ref 1), (1, .ref 240), (2, .int (nI i))] [] (J1, R1, L, sh, N) Q := by
  intro n_
  induction n_ using Nat.strongRecOn with | ind n_ ih_ => ?_
  intro i J1 R1 hn_ v0_ v1_ v2_
  refine r_iload_n (pc2 := 14) d_De_become_13 rfl rfl ?_
  refine r_bipush (v := nI 12) (pc2 := 16) d_De_become_14 rfl (by decide) ?_
  refine q_icmp_ge (tgt := 40) (A := ((i : Nat) : Int)) (B := (12 : Int)) (pc2 := 19) d_De_become_16 rfl rfl (nI_toInt (by omega)) (nI_toInt (by omega)) (fun c1 => ?_) (fun c1 => ?_)
  · refine Run.sub (l2 := [(0, .ref 1), (1, .ref 240)]) ⟨rfl, rfl, trivial⟩ ?_
    rw [show i = 12 by omega] at v0_; exact hk J1 R1 v0_ v1_
  · refine r_aload_n (x := some 1) (pc2 := 20) d_De_become_19 rfl rfl ?_
    refine q_getR (x := some 5) (pc2 := 23) d_De_become_20 rfl k_De_20 rfl (sh_1 hS) (rf_1_1 v1_) ?_
    refine r_iload_n (pc2 := 24) d_De_become_23 rfl rfl ?_
    refine q_aaload (q := i) (x := some (fe 0 i)) (pc2 := 25) d_De_become_24 rfl (sh_5 hS) (by decide) (by decide) (nI_toInt (by omega)) (by omega) (rf_fe v1_ (show 0 < 3 by decide) (show i < 12 by omega)) ?_
    refine r_aload_n (x := some 240) (pc2 := 26) d_De_become_25 rfl rfl ?_
    refine q_getR (x := some 244) (pc2 := 29) d_De_become_26 rfl k_De_20 rfl (sh_240 hS) (rf_240_1 v1_) ?_
    refine r_iload_n (pc2 := 30) d_De_become_29 rfl rfl ?_
    refine q_aaload (q := i) (x := some (fe 1 i)) (pc2 := 31) d_De_become_30 rfl (sh_244 hS) (by decide) (by decide) (nI_toInt (by omega)) (by omega) (rf_fe v1_ (show 1 < 3 by decide) (show i < 12 by omega)) ?_
    refine r_callv (M2 := mi_Fe_become) (pc2 := 34) d_De_become_31 rfl k_De_49 cm_Fe_become cv_Fe_become (sh_fe0 hS (show 0 < 3 by decide) (show i < 12 by omega)) (by decide) rfl rfl rfl (Nat.le_of_ble_eq_true rfl) (c_Fe_become (I := J1) (R := R1) hS v1_ (s := 1) (t := 0) (F := i) (by decide) (by decide) (by decide) (by omega) (d := d - 1) (by omega)) (d2 := d - 1) (by omega) (Nat.le_of_eq (Nat.zero_add _)) (Nat.le_of_eq (Nat.zero_add _)) (fun r2 h2 hq2 => ?_)
    obtain ⟨rfl, K, R2, rfl, hc1, hb1, hr2⟩ := hq2
    change Run _ _ _ _ _ _ [] _ _
    refine q_iinc (b := 1) (pc2 := 37) d_De_become_34 rfl rfl (by decide) (Nat.le_of_ble_eq_true rfl) ?_
    refine r_goto (tgt := 13) d_De_become_37 rfl ?_
    refine Run.sub (l2 := [(0, .ref 1), (1, .ref 240), (2, .int (nI (i + 1)))]) ⟨rfl, rfl, rfl, trivial⟩ ?_
    exact ih_ (12 - (i + 1)) (by omega) (i + 1) K R2 rfl (BFt.s (by decide) (by decide) (by decide) (by omega) v0_ hc1 hb1) (hr2) (by omega)
theorem c_De_become_10 {d : Nat} {I : Nat → Nat → Int32} {R : Nat → Nat → Option Nat} {L : Nat → Nat → Int64} {sh : Nat → Nat × Nat} {N : Nat} (hS : ShOK sh) (hR : RfOK R) {tK tF tC tS : Nat → Int32} {nt : Nat} {G : Nat → Int32} {nP nF nS : Nat} (hW : WFA G nP nF nt) (hS24 : nS ≤ 24) (hD : DR tK tF tC tS I R sh nt 1 G nP nF nS) (hd : 14 ≤ d) : Mt mi_De_become d 0 0 [.ref 1, .ref 240] (I, R, L, sh, N) (fun x h2 => x = none ∧ ∃ K R1, h2 = (K, R1, L, sh, N) ∧ FrE 0 I K ∧ BR 0 R R1 ∧ DR tK tF tC tS K R1 sh nt 0 G nP nF nS) := by
  refine Mt.of pn_De (Nat.le_of_ble_eq_true rfl) ?_
  show Run mi_De_become d 0 0 0 [(0, .ref 1), (1, .ref 240)] [] (I, R, L, sh, N) _
  refine r_aload_n (x := some 1) (pc2 := 1) d_De_become_0 rfl rfl ?_
  refine q_getR (x := some 2) (pc2 := 4) d_De_become_1 rfl k_De_12 rfl (sh_1 hS) (rf_1_0 hR) ?_
  refine r_aload_n (x := some 240) (pc2 := 5) d_De_become_4 rfl rfl ?_
  refine q_getR (x := some 241) (pc2 := 8) d_De_become_5 rfl k_De_12 rfl (sh_240 hS) (rf_240_0 hR) ?_
  refine r_callv (M2 := mi_Pe_become) (pc2 := 11) d_De_become_8 rfl k_De_45 cm_Pe_become cv_Pe_become (sh_2 hS) (by decide) rfl rfl rfl (Nat.le_of_ble_eq_true rfl) (c_Pe_become_10 (J := I) hS hR (d := d - 1) (by omega)) (d2 := d - 1) (by omega) (Nat.le_of_eq (Nat.zero_add _)) (Nat.le_of_eq (Nat.zero_add _)) (fun r2 h2 hq2 => ?_)
  obtain ⟨rfl, P1, P2, P3, rfl, hP1, hP2, hP3⟩ := hq2
  change Run _ _ _ _ _ _ [] _ _
  have hPo : ∀ a j, a ≠ 2 → a ≠ 3 → a ≠ 4 → P3 a j = I a j := fun a j h1 h2 h3 => by rw [rd_ne hP3 h1, cpy_o hP2 h3, cpy_o hP1 h2]
  refine r_iconst (v := nI 0) (pc2 := 12) d_De_become_11 rfl (by decide) ?_
  refine r_istore_n (pc2 := 13) d_De_become_12 rfl rfl (Nat.le_of_ble_eq_true rfl) ?_
  refine Run.sub (l2 := [(0, .ref 1), (1, .ref 240), (2, .int (nI 0))]) ⟨rfl, rfl, rfl, trivial⟩ ?_
  refine l_De_become_10 hS hR (by omega) (hk := fun J1 R1 hF hR1 => ?_) _ 0 P3 R rfl BFt.rf hR (Nat.zero_le _)
  have hF1 : ∀ a j, (¬ (12 ≤ a ∧ a < 240)) → J1 a j = P3 a j := fun a j h => hF.2.1 a j (by unfold fe; omega)
  skip
  refine r_aload_n (x := some 1) (pc2 := 41) d_De_become_40 rfl rfl ?_
  refine r_aload_n (x := some 240) (pc2 := 42) d_De_become_41 rfl rfl ?_
  refine q_getI (x := I 240 2) (pc2 := 45) d_De_become_42 rfl k_De_24 (by decide) (sh_240 hS) ((hF1 240 2 (by decide)).trans (hPo 240 2 (by decide) (by decide) (by decide))) ?_
  refine q_putI (pc2 := 48) d_De_become_45 rfl k_De_24 (Or.inl rfl) (sh_1 hS) (Or.inl rfl) (fun I1 hI1 => ?_)
  have hF2 : ∀ a j, (¬ (12 ≤ a ∧ a < 240)) → a ≠ 1 → (a ≠ 2 ∧ a ≠ 3 ∧ a ≠ 4) → I1 a j = I a j := fun a j h h0 h1 => (rd_ne hI1 h0).trans ((hF1 a j h).trans (hPo a j h1.1 h1.2.1 h1.2.2))
  refine r_aload_n (x := some 1) (pc2 := 49) d_De_become_48 rfl rfl ?_
  refine q_getR (x := some 6) (pc2 := 52) d_De_become_49 rfl k_De_31 rfl (sh_1 hS) (rf_1_3 hR1) ?_
  refine r_aload_n (x := some 240) (pc2 := 53) d_De_become_52 rfl rfl ?_
  refine q_getR (x := some 245) (pc2 := 56) d_De_become_53 rfl k_De_31 rfl (sh_240 hS) (rf_240_3 hR1) ?_
  refine r_callv (M2 := mi_St_become) (pc2 := 59) d_De_become_56 rfl k_De_52 cm_St_become cv_St_become (sh_6 hS) (by decide) rfl rfl rfl (Nat.le_of_ble_eq_true rfl) (c_St_become_10 (J := I1) (R := R1) hS hR1 (nS := nS) ((rd_ne hI1 (by decide)).trans ((hF1 245 5 (by decide)).trans ((hPo 245 5 (by decide) (by decide) (by decide)).trans hD.1.2.2.2.2.2))) hS24 (d := d - 1) (by omega)) (d2 := d - 1) (by omega) (Nat.le_of_eq (Nat.zero_add _)) (Nat.le_of_eq (Nat.zero_add _)) (fun r2 h2 hq2 => ?_)
  obtain ⟨rfl, S1, S2, rfl, hS1, hS2⟩ := hq2
  change Run _ _ _ _ _ _ [] _ _
  have hSo : ∀ a j, ¬ (6 ≤ a ∧ a < 12) → S2 a j = I1 a j := fun a j q => by rw [rd_ne hS2 (by omega)]; exact hS1.2 a j (by omega)
  refine r_aload_n (x := some 1) (pc2 := 60) d_De_become_59 rfl rfl ?_
  refine r_aload_n (x := some 240) (pc2 := 61) d_De_become_60 rfl rfl ?_
  refine q_getI (x := I 240 4) (pc2 := 64) d_De_become_61 rfl k_De_35 (by decide) (sh_240 hS) ((hSo 240 4 (by decide)).trans (hF2 240 4 (by decide) (by decide) (by decide))) ?_
  refine q_putI (pc2 := 67) d_De_become_64 rfl k_De_35 (Or.inl rfl) (sh_1 hS) (Or.inl rfl) (fun I2 hI2 => ?_)
  refine r_aload_n (x := some 1) (pc2 := 68) d_De_become_67 rfl rfl ?_
  refine r_aload_n (x := some 240) (pc2 := 69) d_De_become_68 rfl rfl ?_
  refine q_getI (x := I 240 5) (pc2 := 72) d_De_become_69 rfl k_De_38 (by decide) (sh_240 hS) ((rd_ne hI2 (by decide)).trans ((hSo 240 5 (by decide)).trans (hF2 240 5 (by decide) (by decide) (by decide)))) ?_
  refine q_putI (pc2 := 75) d_De_become_72 rfl k_De_38 (Or.inl rfl) (sh_1 hS) (Or.inl rfl) (fun I3 hI3 => ?_)
  refine r_aload_n (x := some 1) (pc2 := 76) d_De_become_75 rfl rfl ?_
  refine r_aload_n (x := some 240) (pc2 := 77) d_De_become_76 rfl rfl ?_
  refine q_getI (x := I 240 6) (pc2 := 80) d_De_become_77 rfl k_De_41 (by decide) (sh_240 hS) ((rd_ne hI3 (by decide)).trans ((rd_ne hI2 (by decide)).trans ((hSo 240 6 (by decide)).trans (hF2 240 6 (by decide) (by decide) (by decide))))) ?_
  refine q_putI (pc2 := 83) d_De_become_80 rfl k_De_41 (Or.inl rfl) (sh_1 hS) (Or.inl rfl) (fun I4 hI4 => ?_)
  refine Run.ret none d_De_become_83 rfl ?_
  have hK : ∀ a j, a ≠ 1 → I4 a j = S2 a j := fun a j h => by rw [rd_ne hI4 h, rd_ne hI3 h, rd_ne hI2 h]
  have hQ1 : ∀ a j, a ≠ 1 → I1 a j = J1 a j := fun a j h => rd_ne hI1 h
  have hall : ∀ a j, ¬ (1 ≤ a ∧ a < 240) → I4 a j = I a j := fun a j h => (hK a j (by omega)).trans ((hSo a j (by omega)).trans ((hQ1 a j (by omega)).trans ((hF1 a j (by omega)).trans (hPo a j (by omega) (by omega) (by omega)))))
  have hallR : ∀ a j, ¬ (1 ≤ a ∧ a < 240) → R1 a j = R a j := fun a j h => hF.2.2 a j (by unfold fe; omega)
  refine ⟨rfl, I4, R1, rfl, fun a j q => hall a j (by unfold dk at q; omega), ⟨fun a j q => hallR a j (by unfold dk at q; omega), fun _ => hR1⟩, DR.bec (s := 1) hW hD (fun a j h _ => hall a j (by omega)) (fun a j h => hallR a j (by omega)) ?_ ?_ ?_ ?_ ?_ ?_ (fun j hj => ⟨?_, ?_⟩) (fun c i hc hi => ?_) (fun E hE c j hc hp => ?_) (fun E hE r hr => (hF.1 E hE).2 r hr)⟩
  · exact (hK 2 2 (by decide)).trans (((hSo 2 2 (by decide)).trans ((hQ1 2 2 (by decide)).trans (hF1 2 2 (by decide)))).trans (rd_eq hP3))
  · show I4 1 2 = I 240 2
    rw [rd_nk hI4 (by decide), rd_nk hI3 (by decide), rd_nk hI2 (by decide), hSo 1 2 (by decide), rd_eq hI1]
  · show I4 1 4 = I 240 4
    rw [rd_nk hI4 (by decide), rd_nk hI3 (by decide), rd_eq hI2]
  · show I4 1 5 = I 240 5
    rw [rd_nk hI4 (by decide), rd_eq hI3]
  · show I4 1 6 = I 240 6
    rw [rd_eq hI4]
  · show I4 6 5 = I 245 5
    rw [hK 6 5 (by decide), rd_eq hS2]; exact hD.1.2.2.2.2.2.symm
  · show I4 3 j = I 242 j
    rw [hK 3 j (by decide), hSo 3 j (by decide), hQ1 3 j (by decide), hF1 3 j (by decide), rd_ne hP3 (by decide)]
    rw [cpy_o hP2 (by decide)]; exact cpy_i hP1 hj
  · show I4 4 j = I 243 j
    rw [hK 4 j (by decide), hSo 4 j (by decide), hQ1 4 j (by decide), hF1 4 j (by decide), rd_ne hP3 (by decide)]
    rw [cpy_i hP2 hj]; exact cpy_o hP1 (by decide)
  · show I4 (7 + c) i = I (246 + c) i
    rw [hK _ i (by omega), rd_ne hS2 (by omega), hS1.1 c i hc hi, hQ1 _ i (by omega), hF1 _ i (by omega)]; exact hPo _ i (by omega) (by omega) (by omega)
  · have hfe : 12 ≤ fe 0 E ∧ fe 0 E + 19 ≤ 240 := by unfold fe; omega
    have hfs : 251 ≤ fe 1 E ∧ fe 1 E + 19 ≤ 479 := by unfold fe; omega
    rw [hK _ j (by omega), hSo _ j (by omega), hQ1 _ j (by omega), (hF.1 E hE).1 c j hc hp]; exact hPo _ j (by omega) (by omega) (by omega)
