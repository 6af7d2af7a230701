/-! THE CLASS: a person leaves -/
/-- a row from p to i has taken the next places' numbers -/
def shR (I : Nat → Nat → Int32) (A p i : Nat) : Nat → Nat → Int32 := fun a j => if a = A ∧ p ≤ j ∧ j < i then I a (j + 1) else I a j
theorem shR_0 {I : Nat → Nat → Int32} {A p : Nat} : shR I A p p = I := by
  funext a j; unfold shR; rw [if_neg (by omega)]
theorem shR_s {I J K : Nat → Nat → Int32} {A p i : Nat} (h : J = shR I A p i) (hp : p ≤ i) (e : K = u2 J A i (J A (i + 1))) : K = shR I A p (i + 1) := by
  funext a j
  by_cases q : a = A
  · subst q
    by_cases r : j = i
    · subst r; rw [rd_eq e, h]; unfold shR; rw [if_neg (by omega), if_pos (by omega)]
    · rw [rd_nk e r, h]; unfold shR
      by_cases z : p ≤ j ∧ j < i
      · rw [if_pos (by omega), if_pos (by omega)]
      · rw [if_neg (by omega), if_neg (by omega)]
  · rw [rd_ne e q, h]; unfold shR; rw [if_neg (fun z => q z.1), if_neg (fun z => q z.1)]
theorem shR_o {I : Nat → Nat → Int32} {A p i a j : Nat} (h : a ≠ A) : shR I A p i a j = I a j := by unfold shR; rw [if_neg (fun z => h z.1)]
theorem shR_n {I : Nat → Nat → Int32} {A p i j : Nat} (h : j < p ∨ i ≤ j) : shR I A p i A j = I A j := by unfold shR; rw [if_neg (by omega)]
theorem shR_p {I : Nat → Nat → Int32} {A p i j : Nat} (h : p ≤ j ∧ j < i) : shR I A p i A j = I A (j + 1) := by unfold shR; rw [if_pos ⟨rfl, h⟩]
/-- two rows at once -/
theorem shR2_s {I J K1 K2 : Nat → Nat → Int32} {A B p i : Nat} (hAB : A ≠ B) (h : J = shR (shR I A p i) B p i) (hp : p ≤ i) (e1 : K1 = u2 J A i (J A (i + 1))) (e2 : K2 = u2 K1 B i (J B (i + 1))) : K2 = shR (shR I A p (i + 1)) B p (i + 1) := by
  have hc : ∀ n m, shR (shR I A p n) B p m = fun a j => if a = B ∧ p ≤ j ∧ j < m then I a (j + 1) else if a = A ∧ p ≤ j ∧ j < n then I a (j + 1) else I a j := fun n m => by
    funext a j
    unfold shR
    by_cases z : a = B ∧ p ≤ j ∧ j < m
    · rw [if_pos z, if_pos z, if_neg (fun y => hAB (y.1.symm.trans z.1))]
    · rw [if_neg z, if_neg z]
  have x1 : K1 = shR (shR I A p (i + 1)) B p i := by
    rw [hc]
    rw [hc] at h
    funext a j
    by_cases q : a = A
    · subst q
      by_cases r : j = i
      · subst r
        rw [rd_eq e1, h]
        rw [if_neg (fun z => hAB z.1), if_pos (by omega)]
        dsimp only
        rw [if_neg (fun z => hAB z.1), if_neg (by omega)]
      · rw [rd_nk e1 r, h, if_neg (fun z => hAB z.1)]
        dsimp only
        rw [if_neg (fun z => hAB z.1)]
        by_cases z : p ≤ j ∧ j < i
        · rw [if_pos (by omega), if_pos (by omega)]
        · rw [if_neg (by omega), if_neg (by omega)]
    · rw [rd_ne e1 q, h]
      dsimp only
      rw [if_neg (show ¬ (a = A ∧ p ≤ j ∧ j < i + 1) from fun z => q z.1), if_neg (show ¬ (a = A ∧ p ≤ j ∧ j < i) from fun z => q z.1)]
  exact shR_s x1 hp (by rw [rd_ne e1 (fun z => hAB z.symm)]; exact e2)
theorem l_Fe_removeFrom {d : Nat} {J : Nat → Nat → Int32} {R : Nat → Nat → Option Nat} {L : Nat → Nat → Int64} {sh : Nat → Nat × Nat} {N : Nat} (hS : ShOK sh) (hR : RfOK R) {A p : Nat} (hA : sh A = (12, 24)) (hp : p < 24) {Q : Option Value → HS → Prop} (hq : ∀ K, K = u2 (shR J A p 23) A 23 (-1) → Q none (K, R, L, sh, N)) : ∀ (n_ : Nat) (i : Nat) (J1 : Nat → Nat → Int32), 24 - i = n_ → (J1 = shR J A p i) → (p ≤ i) → (i < 24) → Run mi_Fe_removeFrom d 0 0 6 [(0, .ref A), (1, .int (nI p)), (2, .int (nI i))] [] (J1, R, L, sh, N) Q := by
  intro n_
  induction n_ using Nat.strongRecOn with | ind n_ ih_ => ?_
  intro i J1 hn_ v0_ v1_ v2_
  refine r_iload_n (pc2 := 7) d_Fe_removeFrom_6 rfl rfl ?_
  refine r_iconst (v := nI 1) (pc2 := 8) d_Fe_removeFrom_7 rfl (by decide) ?_
  refine q_iaddN (pc2 := 9) d_Fe_removeFrom_8 rfl ?_
  refine r_aload_n (x := some A) (pc2 := 10) d_Fe_removeFrom_9 rfl rfl ?_
  refine r_alen (pc2 := 11) d_Fe_removeFrom_10 rfl hA (by decide) (by decide) ?_
  refine q_icmp_ge (tgt := 28) (A := ((i + 1 : Nat) : Int)) (B := (24 : Int)) (pc2 := 14) d_Fe_removeFrom_11 rfl rfl (nI_toInt (by omega)) (nI_toInt (by omega)) (fun c1 => ?_) (fun c1 => ?_)
  · refine r_aload_n (x := some A) (pc2 := 29) d_Fe_removeFrom_28 rfl rfl ?_
    refine r_alen (pc2 := 30) d_Fe_removeFrom_29 rfl hA (by decide) (by decide) ?_
    refine q_if_le (tgt := 40) (A := (24 : Int)) (pc2 := 33) d_Fe_removeFrom_30 rfl rfl (nI_toInt (by omega)) (fun c2 => ?_) (fun c2 => ?_)
    · exfalso; omega
    refine r_aload_n (x := some A) (pc2 := 34) d_Fe_removeFrom_33 rfl rfl ?_
    refine r_aload_n (x := some A) (pc2 := 35) d_Fe_removeFrom_34 rfl rfl ?_
    refine r_alen (pc2 := 36) d_Fe_removeFrom_35 rfl hA (by decide) (by decide) ?_
    refine r_iconst (v := nI 1) (pc2 := 37) d_Fe_removeFrom_36 rfl (by decide) ?_
    refine q_isubN (pc2 := 38) d_Fe_removeFrom_37 rfl (by omega) ?_
    refine r_iconst (v := (-1 : Int32)) (pc2 := 39) d_Fe_removeFrom_38 rfl (by decide) ?_
    refine q_iastore (q := 23) (pc2 := 40) d_Fe_removeFrom_39 rfl hA (nI_toInt (by omega)) (by omega) (fun I3 hI3 => ?_)
    refine Run.ret none d_Fe_removeFrom_40 rfl ?_
    first | (exfalso; omega) | exact hq _ (by rw [show (23 : Nat) = i by omega, ← v0_, show i = 23 by omega]; exact hI3)
  · refine r_aload_n (x := some A) (pc2 := 15) d_Fe_removeFrom_14 rfl rfl ?_
    refine r_iload_n (pc2 := 16) d_Fe_removeFrom_15 rfl rfl ?_
    refine r_aload_n (x := some A) (pc2 := 17) d_Fe_removeFrom_16 rfl rfl ?_
    refine r_iload_n (pc2 := 18) d_Fe_removeFrom_17 rfl rfl ?_
    refine r_iconst (v := nI 1) (pc2 := 19) d_Fe_removeFrom_18 rfl (by decide) ?_
    refine q_iaddN (pc2 := 20) d_Fe_removeFrom_19 rfl ?_
    refine q_iaload (q := i + 1) (x := J1 A (i + 1)) (pc2 := 21) d_Fe_removeFrom_20 rfl hA (nI_toInt (by omega)) (by omega) rfl ?_
    refine q_iastore (q := i) (pc2 := 22) d_Fe_removeFrom_21 rfl hA (nI_toInt (by omega)) (by omega) (fun I4 hI4 => ?_)
    refine q_iinc (b := 1) (pc2 := 25) d_Fe_removeFrom_22 rfl rfl (by decide) (Nat.le_of_ble_eq_true rfl) ?_
    refine r_goto (tgt := 6) d_Fe_removeFrom_25 rfl ?_
    refine Run.sub (l2 := [(0, .ref A), (1, .int (nI p)), (2, .int (nI (i + 1)))]) ⟨rfl, rfl, rfl, trivial⟩ ?_
    exact ih_ (24 - (i + 1)) (by omega) (i + 1) I4 rfl (shR_s v0_ v1_ hI4) (by omega) (by omega)
theorem c_Fe_removeFrom {d : Nat} {J : Nat → Nat → Int32} {R : Nat → Nat → Option Nat} {L : Nat → Nat → Int64} {sh : Nat → Nat × Nat} {N : Nat} (hS : ShOK sh) (hR : RfOK R) {A p : Nat} (hA : sh A = (12, 24)) (hp : p < 24) (hd : 2 ≤ d) : Mt mi_Fe_removeFrom d 0 0 [.ref A, .int (nI p)] (J, R, L, sh, N) (fun r h2 => r = none ∧ ∃ K, h2 = (K, R, L, sh, N) ∧ K = u2 (shR J A p 23) A 23 (-1)) := by
  refine Mt.of pn_Fe (Nat.le_of_ble_eq_true rfl) ?_
  show Run mi_Fe_removeFrom d 0 0 0 [(0, .ref A), (1, .int (nI p))] [] (J, R, L, sh, N) _
  refine r_iconst (v := nI 0) (pc2 := 1) d_Fe_removeFrom_0 rfl (by decide) ?_
  refine r_iload_n (pc2 := 2) d_Fe_removeFrom_1 rfl rfl ?_
  refine q_calls (M2 := mi_JM_max) (pc2 := 5) d_Fe_removeFrom_2 rfl k_Fe_99 cm_JM_max cs_JM_max rfl rfl (Nat.le_of_ble_eq_true rfl) (c_JM_max (A := 0) (B := p) (by omega) (by omega)) (d2 := d - 1) (by omega) (Nat.le_of_eq (Nat.zero_add _)) (Nat.le_of_eq (Nat.zero_add _)) ?_
  refine r_istore_n (pc2 := 6) d_Fe_removeFrom_5 rfl rfl (Nat.le_of_ble_eq_true rfl) ?_
  refine Run.sub (l2 := [(0, .ref A), (1, .int (nI p)), (2, .int (nI (max (0) (p))))]) ⟨rfl, rfl, rfl, trivial⟩ ?_
  exact l_Fe_removeFrom hS hR hA hp (fun K hK => ⟨rfl, K, rfl, hK⟩) _ _ _ rfl (by first | exact shR_0.symm | (rw [show max 0 p = p by omega]; exact shR_0.symm)) (by omega) (by omega)
theorem l_Pe_remove {d : Nat} {J : Nat → Nat → Int32} {R : Nat → Nat → Option Nat} {L : Nat → Nat → Int64} {sh : Nat → Nat × Nat} {N : Nat} (hS : ShOK sh) (hR : RfOK R) {nP p : Nat} (hn : J 2 2 = nI nP) (hp : p < nP) (hn24 : nP ≤ 24) {Q : Option Value → HS → Prop} (hq : ∀ K, K = u2 (shR (shR J 3 p (nP - 1)) 4 p (nP - 1)) 2 2 (nI (nP - 1)) → Q none (K, R, L, sh, N)) : ∀ (n_ : Nat) (i : Nat) (J1 : Nat → Nat → Int32), nP - i = n_ → (J1 = shR (shR J 3 p i) 4 p i) → (p ≤ i) → (i < nP) → Run mi_Pe_remove d 0 0 2 [(0, .ref 2), (1, .int (nI p)), (2, .int (nI i))] [] (J1, R, L, sh, N) Q := by
  intro n_
  induction n_ using Nat.strongRecOn with | ind n_ ih_ => ?_
  intro i J1 hn_ v0_ v1_ v2_
  have hn1 : J1 2 2 = nI nP := by rw [v0_, shR_o (by decide), shR_o (by decide)]; exact hn
  refine r_iload_n (pc2 := 3) d_Pe_remove_2 rfl rfl ?_
  refine r_iconst (v := nI 1) (pc2 := 4) d_Pe_remove_3 rfl (by decide) ?_
  refine q_iaddN (pc2 := 5) d_Pe_remove_4 rfl ?_
  refine r_aload_n (x := some 2) (pc2 := 6) d_Pe_remove_5 rfl rfl ?_
  refine q_getI (x := nI nP) (pc2 := 9) d_Pe_remove_6 rfl k_Pe_18 (by decide) (sh_2 hS) hn1 ?_
  refine q_icmp_ge (tgt := 46) (A := ((i + 1 : Nat) : Int)) (B := ((nP : Nat) : Int)) (pc2 := 12) d_Pe_remove_9 rfl rfl (nI_toInt (by omega)) (nI_toInt (by omega)) (fun c1 => ?_) (fun c1 => ?_)
  · refine r_aload_n (x := some 2) (pc2 := 47) d_Pe_remove_46 rfl rfl ?_
    refine r_dup (pc2 := 48) d_Pe_remove_47 rfl rfl ?_
    refine q_getI (x := nI nP) (pc2 := 51) d_Pe_remove_48 rfl k_Pe_18 (by decide) (sh_2 hS) hn1 ?_
    refine r_iconst (v := nI 1) (pc2 := 52) d_Pe_remove_51 rfl (by decide) ?_
    refine q_isubN (pc2 := 53) d_Pe_remove_52 rfl (by omega) ?_
    refine q_putI (pc2 := 56) d_Pe_remove_53 rfl k_Pe_18 (Or.inl rfl) (sh_2 hS) (Or.inl rfl) (fun I2 hI2 => ?_)
    refine Run.ret none d_Pe_remove_56 rfl ?_
    exact hq _ (by rw [show nP - 1 = i by omega, ← v0_, show i = nP - 1 by omega]; exact hI2)
  · refine r_aload_n (x := some 2) (pc2 := 13) d_Pe_remove_12 rfl rfl ?_
    refine q_getR (x := some 3) (pc2 := 16) d_Pe_remove_13 rfl k_Pe_9 rfl (sh_2 hS) (rf_2_0 hR) ?_
    refine r_iload_n (pc2 := 17) d_Pe_remove_16 rfl rfl ?_
    refine r_aload_n (x := some 2) (pc2 := 18) d_Pe_remove_17 rfl rfl ?_
    refine q_getR (x := some 3) (pc2 := 21) d_Pe_remove_18 rfl k_Pe_9 rfl (sh_2 hS) (rf_2_0 hR) ?_
    refine r_iload_n (pc2 := 22) d_Pe_remove_21 rfl rfl ?_
    refine r_iconst (v := nI 1) (pc2 := 23) d_Pe_remove_22 rfl (by decide) ?_
    refine q_iaddN (pc2 := 24) d_Pe_remove_23 rfl ?_
    refine q_iaload (q := i + 1) (x := J1 3 (i + 1)) (pc2 := 25) d_Pe_remove_24 rfl (sh_3 hS) (nI_toInt (by omega)) (by omega) rfl ?_
    refine q_iastore (q := i) (pc2 := 26) d_Pe_remove_25 rfl (sh_3 hS) (nI_toInt (by omega)) (by omega) (fun I3 hI3 => ?_)
    refine r_aload_n (x := some 2) (pc2 := 27) d_Pe_remove_26 rfl rfl ?_
    refine q_getR (x := some 4) (pc2 := 30) d_Pe_remove_27 rfl k_Pe_15 rfl (sh_2 hS) (rf_2_1 hR) ?_
    refine r_iload_n (pc2 := 31) d_Pe_remove_30 rfl rfl ?_
    refine r_aload_n (x := some 2) (pc2 := 32) d_Pe_remove_31 rfl rfl ?_
    refine q_getR (x := some 4) (pc2 := 35) d_Pe_remove_32 rfl k_Pe_15 rfl (sh_2 hS) (rf_2_1 hR) ?_
    refine r_iload_n (pc2 := 36) d_Pe_remove_35 rfl rfl ?_
    refine r_iconst (v := nI 1) (pc2 := 37) d_Pe_remove_36 rfl (by decide) ?_
    refine q_iaddN (pc2 := 38) d_Pe_remove_37 rfl ?_
    refine q_iaload (q := i + 1) (x := J1 4 (i + 1)) (pc2 := 39) d_Pe_remove_38 rfl (sh_4 hS) (nI_toInt (by omega)) (by omega) (rd_ne hI3 (by decide)) ?_
    refine q_iastore (q := i) (pc2 := 40) d_Pe_remove_39 rfl (sh_4 hS) (nI_toInt (by omega)) (by omega) (fun I4 hI4 => ?_)
    refine q_iinc (b := 1) (pc2 := 43) d_Pe_remove_40 rfl rfl (by decide) (Nat.le_of_ble_eq_true rfl) ?_
    refine r_goto (tgt := 2) d_Pe_remove_43 rfl ?_
    refine Run.sub (l2 := [(0, .ref 2), (1, .int (nI p)), (2, .int (nI (i + 1)))]) ⟨rfl, rfl, rfl, trivial⟩ ?_
    exact ih_ (nP - (i + 1)) (by omega) (i + 1) I4 rfl (shR2_s (by decide) v0_ v1_ hI3 hI4) (by omega) (by omega)
theorem c_Pe_remove {d : Nat} {J : Nat → Nat → Int32} {R : Nat → Nat → Option Nat} {L : Nat → Nat → Int64} {sh : Nat → Nat × Nat} {N : Nat} (hS : ShOK sh) (hR : RfOK R) {nP p : Nat} (hn : J 2 2 = nI nP) (hp : p < nP) (hn24 : nP ≤ 24) : Mt mi_Pe_remove d 0 0 [.ref 2, .int (nI p)] (J, R, L, sh, N) (fun r h2 => r = none ∧ ∃ K, h2 = (K, R, L, sh, N) ∧ K = u2 (shR (shR J 3 p (nP - 1)) 4 p (nP - 1)) 2 2 (nI (nP - 1))) := by
  refine Mt.of pn_Pe (Nat.le_of_ble_eq_true rfl) ?_
  show Run mi_Pe_remove d 0 0 0 [(0, .ref 2), (1, .int (nI p))] [] (J, R, L, sh, N) _
  refine r_iload_n (pc2 := 1) d_Pe_remove_0 rfl rfl ?_
  refine r_istore_n (pc2 := 2) d_Pe_remove_1 rfl rfl (Nat.le_of_ble_eq_true rfl) ?_
  refine Run.sub (l2 := [(0, .ref 2), (1, .int (nI p)), (2, .int (nI p))]) ⟨rfl, rfl, rfl, trivial⟩ ?_
  exact l_Pe_remove hS hR hn hp hn24 (fun K hK => ⟨rfl, K, rfl, hK⟩) _ p _ rfl (by rw [shR_0, shR_0]) (by omega) (by omega)
