/-! THE CLASS: a person leaves, on -/
/-- a place taken out of a row of 24 -/
def dlR (I : Nat → Nat → Int32) (A p : Nat) : Nat → Nat → Int32 := u2 (shR I A p 23) A 23 (-1)
theorem dlR_o {I : Nat → Nat → Int32} {A p a j : Nat} (h : a ≠ A) : dlR I A p a j = I a j := by unfold dlR; rw [rd_ne rfl h, shR_o h]
theorem dlR_i {I : Nat → Nat → Int32} {A p j : Nat} (hp : p < 24) (hj : j < 24) : dlR I A p A j = if j < p then I A j else if j = 23 then -1 else I A (j + 1) := by
  unfold dlR
  by_cases q : j = 23
  · subst q; rw [rd_eq rfl, if_neg (by omega), if_pos rfl]
  · rw [rd_nk rfl q]
    by_cases z : j < p
    · rw [if_pos z, shR_n (Or.inl z)]
    · rw [if_neg z, if_neg q, shR_p (by omega)]
def goneI (I : Nat → Nat → Int32) (p : Nat) : Nat → Nat → Nat → Int32
  | 0 => I
  | m + 1 => dlR (dlR (goneI I p m) (fe 0 m + 4) p) (fe 0 m + 5) p
theorem goneI_o {I : Nat → Nat → Int32} {p a j : Nat} : ∀ {m : Nat}, (∀ k, k < m → a ≠ fe 0 k + 4 ∧ a ≠ fe 0 k + 5) → goneI I p m a j = I a j
  | 0, _ => rfl
  | m + 1, h => by
    show dlR (dlR (goneI I p m) (fe 0 m + 4) p) (fe 0 m + 5) p a j = _
    rw [dlR_o (h m (by omega)).2, dlR_o (h m (by omega)).1, goneI_o (fun k hk => h k (by omega))]
theorem goneI_4 {I : Nat → Nat → Int32} {p j F : Nat} (hp : p < 24) (hj : j < 24) : ∀ {m : Nat}, F < m → goneI I p m (fe 0 F + 4) j = if j < p then I (fe 0 F + 4) j else if j = 23 then -1 else I (fe 0 F + 4) (j + 1)
  | 0, h => by omega
  | m + 1, h => by
    show dlR (dlR (goneI I p m) (fe 0 m + 4) p) (fe 0 m + 5) p (fe 0 F + 4) j = _
    rw [dlR_o (by unfold fe; omega)]
    by_cases q : F = m
    · subst q
      rw [dlR_i hp hj, goneI_o (fun k hk => by unfold fe; omega), goneI_o (fun k hk => by unfold fe; omega)]
    · rw [dlR_o (by unfold fe; omega), goneI_4 hp hj (by omega)]
theorem goneI_5 {I : Nat → Nat → Int32} {p j F : Nat} (hp : p < 24) (hj : j < 24) : ∀ {m : Nat}, F < m → goneI I p m (fe 0 F + 5) j = if j < p then I (fe 0 F + 5) j else if j = 23 then -1 else I (fe 0 F + 5) (j + 1)
  | 0, h => by omega
  | m + 1, h => by
    show dlR (dlR (goneI I p m) (fe 0 m + 4) p) (fe 0 m + 5) p (fe 0 F + 5) j = _
    by_cases q : F = m
    · subst q
      rw [dlR_i hp hj, dlR_o (by omega), dlR_o (by omega), goneI_o (fun k hk => by unfold fe; omega), goneI_o (fun k hk => by unfold fe; omega)]
    · rw [dlR_o (by unfold fe; omega), dlR_o (by unfold fe; omega), goneI_5 hp hj (by omega)]
theorem c_Fe_removePerson {d : Nat} {J : Nat → Nat → Int32} {R : Nat → Nat → Option Nat} {L : Nat → Nat → Int64} {sh : Nat → Nat × Nat} {N : Nat} (hS : ShOK sh) (hR : RfOK R) {F : Nat} (hF : F < 12) {p : Nat} (hp : p < 24) (hd : 4 ≤ d) : Mt mi_Fe_removePerson d 0 0 [.ref (fe 0 F), .int (nI p)] (J, R, L, sh, N) (fun r h2 => r = none ∧ ∃ K, h2 = (K, R, L, sh, N) ∧ K = dlR (dlR J (fe 0 F + 4) p) (fe 0 F + 5) p) := by
  refine Mt.of pn_Fe (Nat.le_of_ble_eq_true rfl) ?_
  show Run mi_Fe_removePerson d 0 0 0 [(0, .ref (fe 0 F)), (1, .int (nI p))] [] (J, R, L, sh, N) _
  refine r_aload_n (x := some (fe 0 F)) (pc2 := 1) d_Fe_removePerson_0 rfl rfl ?_
  refine q_getR (x := some (fe 0 F + 4)) (pc2 := 4) d_Fe_removePerson_1 rfl k_Fe_43 rfl (sh_fe0 hS (show 0 < 3 by decide) hF) (rf_fe_9 hR (show 0 < 3 by decide) hF) ?_
  refine r_iload_n (pc2 := 5) d_Fe_removePerson_4 rfl rfl ?_
  refine r_calls (M2 := mi_Fe_removeFrom) (pc2 := 8) d_Fe_removePerson_5 rfl k_Fe_92 cm_Fe_removeFrom cs_Fe_removeFrom rfl rfl (Nat.le_of_ble_eq_true rfl) (c_Fe_removeFrom (J := J) hS hR (A := fe 0 F + 4) (p := p) (sh_fe4 hS (show 0 < 3 by decide) hF) (by omega) (by omega)) (d2 := d - 1) (by omega) (Nat.le_of_eq (Nat.zero_add _)) (Nat.le_of_eq (Nat.zero_add _)) (fun r2 h2 hq2 => ?_)
  obtain ⟨rfl, K1, rfl, hK1⟩ := hq2
  change Run _ _ _ _ _ _ [] _ _
  refine r_aload_n (x := some (fe 0 F)) (pc2 := 9) d_Fe_removePerson_8 rfl rfl ?_
  refine q_getR (x := some (fe 0 F + 5)) (pc2 := 12) d_Fe_removePerson_9 rfl k_Fe_46 rfl (sh_fe0 hS (show 0 < 3 by decide) hF) (rf_fe_10 hR (show 0 < 3 by decide) hF) ?_
  refine r_iload_n (pc2 := 13) d_Fe_removePerson_12 rfl rfl ?_
  refine r_calls (M2 := mi_Fe_removeFrom) (pc2 := 16) d_Fe_removePerson_13 rfl k_Fe_92 cm_Fe_removeFrom cs_Fe_removeFrom rfl rfl (Nat.le_of_ble_eq_true rfl) (c_Fe_removeFrom (J := K1) hS hR (A := fe 0 F + 5) (p := p) (sh_fe5 hS (show 0 < 3 by decide) hF) (by omega) (by omega)) (d2 := d - 1) (by omega) (Nat.le_of_eq (Nat.zero_add _)) (Nat.le_of_eq (Nat.zero_add _)) (fun r2 h2 hq2 => ?_)
  obtain ⟨rfl, K2, rfl, hK2⟩ := hq2
  change Run _ _ _ _ _ _ [] _ _
  refine Run.ret none d_Fe_removePerson_16 rfl ?_
  exact ⟨rfl, _, rfl, by rw [hK2, hK1]; rfl⟩
theorem l_De_removePerson {d : Nat} {J : Nat → Nat → Int32} {R : Nat → Nat → Option Nat} {L : Nat → Nat → Int64} {sh : Nat → Nat × Nat} {N : Nat} (hS : ShOK sh) (hR : RfOK R) {nF p : Nat} (hF1 : J 1 2 = nI nF) (hp : p < 24) (hF12 : nF ≤ 12) (hd : 10 ≤ d) {Q : Option Value → HS → Prop} (hq : ∀ K, K = goneI J p nF → Q none (K, R, L, sh, N)) : ∀ (n_ : Nat) (i : Nat) (J1 : Nat → Nat → Int32), nF - i = n_ → (J1 = goneI J p i) → (i ≤ nF) → Run mi_De_removePerson d 0 0 10 [(0, .ref 1), (1, .int (nI p)), (2, .int (nI i))] [] (J1, R, L, sh, N) Q := by
  intro n_
  induction n_ using Nat.strongRecOn with | ind n_ ih_ => ?_
  intro i J1 hn_ v0_ v1_
  have hn1 : J1 1 2 = nI nF := by rw [v0_, goneI_o (fun k hk => by unfold fe; omega)]; exact hF1
  refine r_iload_n (pc2 := 11) d_De_removePerson_10 rfl rfl ?_
  refine r_aload_n (x := some 1) (pc2 := 12) d_De_removePerson_11 rfl rfl ?_
  refine q_getI (x := nI nF) (pc2 := 15) d_De_removePerson_12 rfl k_De_24 (by decide) (sh_1 hS) hn1 ?_
  refine q_icmp_ge (tgt := 34) (A := ((i : Nat) : Int)) (B := ((nF : Nat) : Int)) (pc2 := 18) d_De_removePerson_15 rfl rfl (nI_toInt (by omega)) (nI_toInt (by omega)) (fun c1 => ?_) (fun c1 => ?_)
  · refine Run.ret none d_De_removePerson_34 rfl ?_
    exact hq _ (by rw [show nF = i by omega]; exact v0_)
  · refine r_aload_n (x := some 1) (pc2 := 19) d_De_removePerson_18 rfl rfl ?_
    refine q_getR (x := some 5) (pc2 := 22) d_De_removePerson_19 rfl k_De_20 rfl (sh_1 hS) (rf_1_1 hR) ?_
    refine r_iload_n (pc2 := 23) d_De_removePerson_22 rfl rfl ?_
    refine q_aaload (q := i) (x := some (fe 0 i)) (pc2 := 24) d_De_removePerson_23 rfl (sh_5 hS) (by decide) (by decide) (nI_toInt (by omega)) (by omega) (rf_fe hR (show 0 < 3 by decide) (show i < 12 by omega)) ?_
    refine r_iload_n (pc2 := 25) d_De_removePerson_24 rfl rfl ?_
    refine r_callv (M2 := mi_Fe_removePerson) (pc2 := 28) d_De_removePerson_25 rfl k_De_59 cm_Fe_removePerson cv_Fe_removePerson (sh_fe0 hS (show 0 < 3 by decide) (show i < 12 by omega)) (by decide) rfl rfl rfl (Nat.le_of_ble_eq_true rfl) (c_Fe_removePerson (J := J1) hS hR (F := i) (by omega) (p := p) (by omega) (by omega)) (d2 := d - 1) (by omega) (Nat.le_of_eq (Nat.zero_add _)) (Nat.le_of_eq (Nat.zero_add _)) (fun r2 h2 hq2 => ?_)
    obtain ⟨rfl, K2, rfl, hK2⟩ := hq2
    change Run _ _ _ _ _ _ [] _ _
    refine q_iinc (b := 1) (pc2 := 31) d_De_removePerson_28 rfl rfl (by decide) (Nat.le_of_ble_eq_true rfl) ?_
    refine r_goto (tgt := 10) d_De_removePerson_31 rfl ?_
    refine Run.sub (l2 := [(0, .ref 1), (1, .int (nI p)), (2, .int (nI (i + 1)))]) ⟨rfl, rfl, rfl, trivial⟩ ?_
    exact ih_ (nF - (i + 1)) (by omega) (i + 1) K2 rfl (by rw [hK2, v0_]; rfl) (by omega)
theorem c_De_removePerson {d : Nat} {J : Nat → Nat → Int32} {R : Nat → Nat → Option Nat} {L : Nat → Nat → Int64} {sh : Nat → Nat × Nat} {N : Nat} (hS : ShOK sh) (hR : RfOK R) {nP nF p : Nat} (hn : J 2 2 = nI nP) (hF1 : J 1 2 = nI nF) (hp : p < nP) (hn24 : nP ≤ 24) (hF12 : nF ≤ 12) (hd : 10 ≤ d) : Mt mi_De_removePerson d 0 0 [.ref 1, .int (nI p)] (J, R, L, sh, N) (fun r h2 => r = none ∧ ∃ K, h2 = (K, R, L, sh, N) ∧ K = goneI (u2 (shR (shR J 3 p (nP - 1)) 4 p (nP - 1)) 2 2 (nI (nP - 1))) p nF) := by
  refine Mt.of pn_De (Nat.le_of_ble_eq_true rfl) ?_
  show Run mi_De_removePerson d 0 0 0 [(0, .ref 1), (1, .int (nI p))] [] (J, R, L, sh, N) _
  refine r_aload_n (x := some 1) (pc2 := 1) d_De_removePerson_0 rfl rfl ?_
  refine q_getR (x := some 2) (pc2 := 4) d_De_removePerson_1 rfl k_De_12 rfl (sh_1 hS) (rf_1_0 hR) ?_
  refine r_iload_n (pc2 := 5) d_De_removePerson_4 rfl rfl ?_
  refine r_callv (M2 := mi_Pe_remove) (pc2 := 8) d_De_removePerson_5 rfl k_De_55 cm_Pe_remove cv_Pe_remove (sh_2 hS) (by decide) rfl rfl rfl (Nat.le_of_ble_eq_true rfl) (c_Pe_remove (J := J) hS hR (nP := nP) (p := p) hn (by omega) (by omega)) (d2 := d - 1) (by omega) (Nat.le_of_eq (Nat.zero_add _)) (Nat.le_of_eq (Nat.zero_add _)) (fun r2 h2 hq2 => ?_)
  obtain ⟨rfl, K1, rfl, hK1⟩ := hq2
  change Run _ _ _ _ _ _ [] _ _
  refine r_iconst (v := nI 0) (pc2 := 9) d_De_removePerson_8 rfl (by decide) ?_
  refine r_istore_n (pc2 := 10) d_De_removePerson_9 rfl rfl (Nat.le_of_ble_eq_true rfl) ?_
  refine Run.sub (l2 := [(0, .ref 1), (1, .int (nI p)), (2, .int (nI 0))]) ⟨rfl, rfl, rfl, trivial⟩ ?_
  exact l_De_removePerson hS hR (show K1 1 2 = nI nF by rw [hK1, rd_ne rfl (by decide), shR_o (by decide), shR_o (by decide)]; exact hF1) (by omega) hF12 hd (fun K hK => ⟨rfl, K, rfl, by rw [hK, hK1]⟩) _ 0 _ rfl rfl (Nat.zero_le _)
