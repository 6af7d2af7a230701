/-! THE READER: read -/
theorem c_Re_readAnswer {d : Nat} {J : Nat → Nat → Int32} {R : Nat → Nat → Option Nat} {L : Nat → Nat → Int64} {sh : Nat → Nat × Nat} {N : Nat} (hS : ShOK sh) (hR : RfOK R) (hT0 : R 731 0 = some 730) {T : Nat → Int32} {n p : Nat} {ob : Nat} {ns : List Nd} {W Lo : List Nat} (hr : RS T n p false ob ns W Lo J) (hn : n ≤ 250) (hp : p < n) {top : Nat} (ht : 1 ≤ top ∧ top ≤ 3) (hb : byt T n p = 58 ∨ byt T n p = 37) (hd : 4 ≤ d) : Mt mi_Re_readAnswer d 0 0 [.ref 731, .int (nI top)] (J, R, L, sh, N) (fun x h2 => ∃ K, h2 = (K, R, L, sh, N) ∧ FrV J K ∧ AnP T n ob ns W Lo (anS T n top p) x K) := by
  refine Mt.of pn_Re (Nat.le_of_ble_eq_true rfl) ?_
  show Run mi_Re_readAnswer d 0 0 0 [(0, .ref 731), (1, .int (nI top))] [] (J, R, L, sh, N) _
  refine r_aload_n (x := some 731) (pc2 := 1) d_Re_readAnswer_0 rfl rfl ?_
  refine q_callv (M2 := mi_Re_letterHere) (pc2 := 4) d_Re_readAnswer_1 rfl k_Re_107 cm_Re_letterHere cv_Re_letterHere (sh_731 hS) (by decide) rfl rfl rfl (Nat.le_of_ble_eq_true rfl) (c_Re_letterHere hS hR hT0 hr hn (by omega)) (d2 := d - 1) (by omega) (Nat.le_of_eq (Nat.zero_add _)) (Nat.le_of_eq (Nat.zero_add _)) ?_
  refine r_bipush (v := nI 58) (pc2 := 6) d_Re_readAnswer_4 rfl (by decide) ?_
  refine q_icmp_ne (tgt := 13) (A := byt T n p) (B := (58 : Int)) (pc2 := 9) d_Re_readAnswer_6 rfl rfl (ltr_i) (nI_toInt (by omega)) (fun c1 => ?_) (fun c1 => ?_)
  · have h58 : ¬ byt T n p = 58 := by omega
    refine r_iconst (v := nI 0) (pc2 := 14) d_Re_readAnswer_13 rfl (by decide) ?_
    refine r_istore_n (pc2 := 15) d_Re_readAnswer_14 rfl rfl (Nat.le_of_ble_eq_true rfl) ?_
    refine r_aload_n (x := some 731) (pc2 := 16) d_Re_readAnswer_15 rfl rfl ?_
    refine r_dup (pc2 := 17) d_Re_readAnswer_16 rfl rfl ?_
    refine q_getI (x := nI p) (pc2 := 20) d_Re_readAnswer_17 rfl k_Re_19 (by decide) (sh_731 hS) hr.1.2.1 ?_
    refine r_iconst (v := nI 1) (pc2 := 21) d_Re_readAnswer_20 rfl (by decide) ?_
    refine q_iaddN (pc2 := 22) d_Re_readAnswer_21 rfl ?_
    refine q_putI (pc2 := 25) d_Re_readAnswer_22 rfl k_Re_19 (Or.inl rfl) (sh_731 hS) (Or.inl rfl) (fun I2 hI2 => ?_)
    have hr3 := hr.pl (q := p + 1) hI2
    refine r_iload_n (pc2 := 26) d_Re_readAnswer_25 rfl rfl ?_
    refine q_if_eq (tgt := 37) (A := (0 : Int)) (pc2 := 29) d_Re_readAnswer_26 rfl rfl (nI_toInt (by omega)) (fun c4 => ?_) (fun c4 => ?_)
    rotate_left
    · exfalso; omega
    refine r_aload_n (x := some 731) (pc2 := 38) d_Re_readAnswer_37 rfl rfl ?_
    refine r_iload_n (pc2 := 39) d_Re_readAnswer_38 rfl rfl ?_
    refine r_callv (M2 := mi_Re_readParts) (pc2 := 42) d_Re_readAnswer_39 rfl k_Re_125 cm_Re_readParts cv_Re_readParts (sh_731 hS) (by decide) rfl rfl rfl (Nat.le_of_ble_eq_true rfl) (c_Re_readParts hS hR hT0 hr3 hn (by omega) (top := top) ht (by omega)) (d2 := d - 1) (by omega) (Nat.le_of_eq (Nat.zero_add _)) (Nat.le_of_eq (Nat.zero_add _)) (fun r2 h2 hq2 => ?_)
    obtain ⟨K5, rfl, hfK5, hmK5⟩ := hq2
    rcases hoK5 : pxA T n (hiT top 0) (hiT top 1) (hiT top 2) (p + 1) with ⟨oK5, qK5⟩
    rw [hoK5] at hmK5
    cases oK5 with
    | none =>
      obtain ⟨rfl, hqK5, hrK5⟩ := hmK5
      refine Run.ret (some (.int (nI 0))) d_Re_readAnswer_42 ⟨_, rfl, by decide⟩ ?_
      exact ⟨_, rfl, ((FrV.rf.p hI2 (by decide)).t hfK5), by unfold anS; rw [if_neg h58, if_pos (by omega), hoK5]; exact ⟨rfl, by omega, hrK5⟩⟩
    | some aK5 =>
      obtain ⟨rfl, hqK5, hrK5, hpK5⟩ := hmK5
      refine Run.ret (some (.int (nI 1))) d_Re_readAnswer_42 ⟨_, rfl, by decide⟩ ?_
      exact ⟨_, rfl, ((FrV.rf.p hI2 (by decide)).t hfK5), by unfold anS; rw [if_neg h58, if_pos (by omega), hoK5]; exact ⟨rfl, by omega, hrK5, hpK5⟩⟩
  · have h58 : byt T n p = 58 := by omega
    refine r_iconst (v := nI 1) (pc2 := 10) d_Re_readAnswer_9 rfl (by decide) ?_
    refine r_goto (tgt := 14) d_Re_readAnswer_10 rfl ?_
    refine r_istore_n (pc2 := 15) d_Re_readAnswer_14 rfl rfl (Nat.le_of_ble_eq_true rfl) ?_
    refine r_aload_n (x := some 731) (pc2 := 16) d_Re_readAnswer_15 rfl rfl ?_
    refine r_dup (pc2 := 17) d_Re_readAnswer_16 rfl rfl ?_
    refine q_getI (x := nI p) (pc2 := 20) d_Re_readAnswer_17 rfl k_Re_19 (by decide) (sh_731 hS) hr.1.2.1 ?_
    refine r_iconst (v := nI 1) (pc2 := 21) d_Re_readAnswer_20 rfl (by decide) ?_
    refine q_iaddN (pc2 := 22) d_Re_readAnswer_21 rfl ?_
    refine q_putI (pc2 := 25) d_Re_readAnswer_22 rfl k_Re_19 (Or.inl rfl) (sh_731 hS) (Or.inl rfl) (fun I6 hI6 => ?_)
    have hr7 := hr.pl (q := p + 1) hI6
    refine r_iload_n (pc2 := 26) d_Re_readAnswer_25 rfl rfl ?_
    refine q_if_eq (tgt := 37) (A := (1 : Int)) (pc2 := 29) d_Re_readAnswer_26 rfl rfl (nI_toInt (by omega)) (fun c8 => ?_) (fun c8 => ?_)
    · exfalso; omega
    refine r_aload_n (x := some 731) (pc2 := 30) d_Re_readAnswer_29 rfl rfl ?_
    refine r_iload_n (pc2 := 31) d_Re_readAnswer_30 rfl rfl ?_
    refine r_callv (M2 := mi_Re_readFixed) (pc2 := 34) d_Re_readAnswer_31 rfl k_Re_122 cm_Re_readFixed cv_Re_readFixed (sh_731 hS) (by decide) rfl rfl rfl (Nat.le_of_ble_eq_true rfl) (c_Re_readFixed hS hR hT0 hr7 hn (by omega) (top := top) (by omega) (by omega)) (d2 := d - 1) (by omega) (Nat.le_of_eq (Nat.zero_add _)) (Nat.le_of_eq (Nat.zero_add _)) (fun r2 h2 hq2 => ?_)
    obtain ⟨K9, rfl, hfK9, hmK9⟩ := hq2
    rcases hoK9 : fxA T n top (p + 1) with ⟨oK9, qK9⟩
    rw [hoK9] at hmK9
    cases oK9 with
    | none =>
      obtain ⟨rfl, hqK9, hrK9⟩ := hmK9
      refine r_goto (tgt := 42) d_Re_readAnswer_34 rfl ?_
      refine Run.ret (some (.int (nI 0))) d_Re_readAnswer_42 ⟨_, rfl, by decide⟩ ?_
      exact ⟨_, rfl, ((FrV.rf.p hI6 (by decide)).t hfK9), by unfold anS; rw [if_pos h58, hoK9]; exact ⟨rfl, by omega, hrK9⟩⟩
    | some aK9 =>
      obtain ⟨rfl, hqK9, hrK9, hpK9⟩ := hmK9
      refine r_goto (tgt := 42) d_Re_readAnswer_34 rfl ?_
      refine Run.ret (some (.int (nI 1))) d_Re_readAnswer_42 ⟨_, rfl, by decide⟩ ?_
      exact ⟨_, rfl, ((FrV.rf.p hI6 (by decide)).t hfK9), by unfold anS; rw [if_pos h58, hoK9]; exact ⟨rfl, by omega, hrK9, hpK9⟩⟩
theorem c_Re_read {d : Nat} {J : Nat → Nat → Int32} {R : Nat → Nat → Option Nat} {L : Nat → Nat → Int64} {sh : Nat → Nat × Nat} {N : Nat} (hS : ShOK sh) (hR0 : RfOK R) {T : Nat → Int32} {n top : Nat} (hT : ∀ j, j < n → J 730 j = T j) (hn : n ≤ 250) (ht : 1 ≤ top ∧ top ≤ 3) (hd : 10 ≤ d) : Mt mi_Re_read d 0 0 [.ref 731, .ref 730, .int (nI n), .int (nI top)] (J, R, L, sh, N) (fun x h2 => ∃ K R1, h2 = (K, R1, L, sh, N) ∧ R1 = u2 R 731 0 (some 730) ∧ FrV J K ∧ match rdR T n top with | (none, q) => x = some (.int (nI q)) ∧ q ≤ n | (some (m, a), _) => x = some (.int (-1)) ∧ K 731 9 = nI m.length ∧ NR K m ∧ PAn a K ∧ 0 < m.length ∧ m.length < 250) := by
  refine Mt.of pn_Re (Nat.le_of_ble_eq_true rfl) ?_
  show Run mi_Re_read d 0 0 0 [(0, .ref 731), (1, .ref 730), (2, .int (nI n)), (3, .int (nI top))] [] (J, R, L, sh, N) _
  refine r_aload_n (x := some 731) (pc2 := 1) d_Re_read_0 rfl rfl ?_
  refine r_aload_n (x := some 730) (pc2 := 2) d_Re_read_1 rfl rfl ?_
  refine q_putR (x := some 730) (pc2 := 5) d_Re_read_2 rfl k_Re_9 rfl (sh_731 hS) (Or.inl rfl) (fun R1 hR1 => ?_)
  have hR := RfOK_731 hR0 hR1
  have hT0 : R1 731 0 = some 730 := rd_eq hR1
  refine r_aload_n (x := some 731) (pc2 := 6) d_Re_read_5 rfl rfl ?_
  refine r_iload_n (pc2 := 7) d_Re_read_6 rfl rfl ?_
  refine r_aload_n (x := some 730) (pc2 := 8) d_Re_read_7 rfl rfl ?_
  refine r_alen (pc2 := 9) d_Re_read_8 rfl (sh_730 hS) (by decide) (by decide) ?_
  refine r_sipush (v := nI 250) (pc2 := 12) d_Re_read_9 rfl (by decide) ?_
  refine q_calls (M2 := mi_JM_min) (pc2 := 15) d_Re_read_12 rfl k_Re_62 cm_JM_min cs_JM_min rfl rfl (Nat.le_of_ble_eq_true rfl) (c_JM_min (A := 250) (B := 250) (by omega) (by omega)) (d2 := d - 1) (by omega) (Nat.le_of_eq (Nat.zero_add _)) (Nat.le_of_eq (Nat.zero_add _)) ?_
  refine q_calls (M2 := mi_JM_min) (pc2 := 18) d_Re_read_15 rfl k_Re_62 cm_JM_min cs_JM_min rfl rfl (Nat.le_of_ble_eq_true rfl) (c_JM_min (A := n) (B := 250) (by omega) (by omega)) (d2 := d - 1) (by omega) (Nat.le_of_eq (Nat.zero_add _)) (Nat.le_of_eq (Nat.zero_add _)) ?_
  refine q_top (y := nI n) (by rw [show min (n) (250) = n by omega]) ?_
  refine q_putI (pc2 := 21) d_Re_read_18 rfl k_Re_15 (Or.inl rfl) (sh_731 hS) (Or.inl rfl) (fun I2 hI2 => ?_)
  refine r_aload_n (x := some 731) (pc2 := 22) d_Re_read_21 rfl rfl ?_
  refine r_iconst (v := nI 0) (pc2 := 23) d_Re_read_22 rfl (by decide) ?_
  refine q_putI (pc2 := 26) d_Re_read_23 rfl k_Re_19 (Or.inl rfl) (sh_731 hS) (Or.inl rfl) (fun I3 hI3 => ?_)
  refine r_aload_n (x := some 731) (pc2 := 27) d_Re_read_26 rfl rfl ?_
  refine r_iconst (v := nI 0) (pc2 := 28) d_Re_read_27 rfl (by decide) ?_
  refine q_putI (pc2 := 31) d_Re_read_28 rfl k_Re_40 (Or.inl rfl) (sh_731 hS) (Or.inl rfl) (fun I4 hI4 => ?_)
  refine r_aload_n (x := some 731) (pc2 := 32) d_Re_read_31 rfl rfl ?_
  refine r_iconst (v := nI 0) (pc2 := 33) d_Re_read_32 rfl (by decide) ?_
  refine q_putI (pc2 := 36) d_Re_read_33 rfl k_Re_46 (Or.inl rfl) (sh_731 hS) (Or.inl rfl) (fun I5 hI5 => ?_)
  refine r_aload_n (x := some 731) (pc2 := 37) d_Re_read_36 rfl rfl ?_
  refine r_iconst (v := nI 0) (pc2 := 38) d_Re_read_37 rfl (by decide) ?_
  refine q_putI (pc2 := 41) d_Re_read_38 rfl k_Re_52 (Or.inl rfl) (sh_731 hS) (Or.inl rfl) (fun I6 hI6 => ?_)
  refine r_aload_n (x := some 731) (pc2 := 42) d_Re_read_41 rfl rfl ?_
  refine r_iconst (v := nI 0) (pc2 := 43) d_Re_read_42 rfl (by decide) ?_
  refine q_putI (pc2 := 46) d_Re_read_43 rfl k_Re_55 (Or.inl rfl) (sh_731 hS) (Or.inl rfl) (fun I7 hI7 => ?_)
  refine r_aload_n (x := some 731) (pc2 := 47) d_Re_read_46 rfl rfl ?_
  refine r_iconst (v := nI 1) (pc2 := 48) d_Re_read_47 rfl (by decide) ?_
  refine q_putI (pc2 := 51) d_Re_read_48 rfl k_Re_58 (Or.inr ⟨rfl, by decide⟩) (sh_731 hS) (Or.inl rfl) (fun I8 hI8 => ?_)
  have hr : RS T n 0 true 0 [] [] [] I8 := ⟨⟨(rd_nk hI8 (by decide)).trans ((rd_nk hI7 (by decide)).trans ((rd_nk hI6 (by decide)).trans ((rd_nk hI5 (by decide)).trans ((rd_nk hI4 (by decide)).trans ((rd_nk hI3 (by decide)).trans (rd_eq hI2)))))), (rd_nk hI8 (by decide)).trans ((rd_nk hI7 (by decide)).trans ((rd_nk hI6 (by decide)).trans ((rd_nk hI5 (by decide)).trans ((rd_nk hI4 (by decide)).trans (rd_eq hI3))))), (rd_nk hI8 (by decide)).trans ((rd_nk hI7 (by decide)).trans ((rd_nk hI6 (by decide)).trans ((rd_nk hI5 (by decide)).trans (rd_eq hI4)))), (rd_nk hI8 (by decide)).trans ((rd_nk hI7 (by decide)).trans ((rd_nk hI6 (by decide)).trans (rd_eq hI5))), (rd_nk hI8 (by decide)).trans ((rd_nk hI7 (by decide)).trans (rd_eq hI6)), (rd_nk hI8 (by decide)).trans (rd_eq hI7), (rd_eq hI8).trans bI_tt.symm⟩, fun j hj => absurd hj (by simp), trivial, trivial, fun j hj => ((rd_ne hI8 (by decide)).trans ((rd_ne hI7 (by decide)).trans ((rd_ne hI6 (by decide)).trans ((rd_ne hI5 (by decide)).trans ((rd_ne hI4 (by decide)).trans ((rd_ne hI3 (by decide)).trans (rd_ne hI2 (by decide)))))))).trans (hT j hj)⟩
  refine r_aload_n (x := some 731) (pc2 := 52) d_Re_read_51 rfl rfl ?_
  refine r_callv (M2 := mi_Re_readCondition) (pc2 := 55) d_Re_read_52 rfl k_Re_68 cm_Re_readCondition cv_Re_readCondition (sh_731 hS) (by decide) rfl rfl rfl (Nat.le_of_ble_eq_true rfl) (c_Re_readCondition hS hR hT0 hn (K1 := J) hr (by omega)) (d2 := d - 1) (by omega) (Nat.le_of_eq (Nat.zero_add _)) (Nat.le_of_eq (Nat.zero_add _)) (fun r2 h2 hq2 => ?_)
  obtain ⟨K9, rfl, hfK9, hmK9⟩ := hq2
  obtain ⟨hrm, hrd⟩ := rdC_M (T := T) (n := n)
  rw [hrm] at hmK9
  clear hrm
  rcases hc : rdC T n with ⟨oc, qc, mc⟩
  rw [hc] at hmK9 hrd
  obtain ⟨-, hrd1, -, -, hrd2, hrd3⟩ := hrd
  dsimp only at hrd1 hrd2 hrd3
  cases oc with
  | none =>
    obtain ⟨rfl, hqc, due, ob, ns, W, Lo, hrK9⟩ := hmK9
    refine q_if_eq (tgt := 81) (A := (0 : Int)) (pc2 := 58) d_Re_read_55 rfl rfl (nI_toInt (by omega)) (fun c10 => ?_) (fun c10 => ?_)
    rotate_left
    · exfalso; omega
    refine r_iconst (v := nI 0) (pc2 := 82) d_Re_read_81 rfl (by decide) ?_
    refine r_istore (pc2 := 84) d_Re_read_82 rfl (Nat.le_of_ble_eq_true rfl) ?_
    refine r_iload (pc2 := 86) d_Re_read_84 rfl rfl ?_
    refine q_if_eq (tgt := 93) (A := (0 : Int)) (pc2 := 89) d_Re_read_86 rfl rfl (nI_toInt (by omega)) (fun c11 => ?_) (fun c11 => ?_)
    rotate_left
    · exfalso; omega
    refine r_aload_n (x := some 731) (pc2 := 94) d_Re_read_93 rfl rfl ?_
    refine q_getI (x := nI qc) (pc2 := 97) d_Re_read_94 rfl k_Re_19 (by decide) (sh_731 hS) hrK9.1.2.1 ?_
    refine Run.ret (some (.int (nI qc))) d_Re_read_97 ⟨_, rfl⟩ ?_
    have e_ : rdR T n top = (none, qc) := rdR_n hc
    refine ⟨_, _, rfl, hR1, ((((((((FrV.rf.p hI2 (by decide)).p hI3 (by decide)).p hI4 (by decide)).p hI5 (by decide)).p hI6 (by decide)).p hI7 (by decide)).p hI8 (by decide)).t hfK9), ?_⟩
    rw [e_]
    exact ⟨rfl, by omega⟩
  | some tc =>
    by_cases hb58 : byt T n qc = 58 ∨ byt T n qc = 37
    ·
      dsimp only at hmK9
      rw [if_pos hb58] at hmK9
      obtain ⟨rfl, hqc, -, hml, W, Lo, hrK9⟩ := hmK9
      refine q_if_eq (tgt := 81) (A := (1 : Int)) (pc2 := 58) d_Re_read_55 rfl rfl (nI_toInt (by omega)) (fun c12 => ?_) (fun c12 => ?_)
      · exfalso; omega
      refine r_aload_n (x := some 731) (pc2 := 59) d_Re_read_58 rfl rfl ?_
      refine r_iload_n (pc2 := 60) d_Re_read_59 rfl rfl ?_
      refine r_callv (M2 := mi_Re_readAnswer) (pc2 := 63) d_Re_read_60 rfl k_Re_72 cm_Re_readAnswer cv_Re_readAnswer (sh_731 hS) (by decide) rfl rfl rfl (Nat.le_of_ble_eq_true rfl) (c_Re_readAnswer hS hR hT0 hrK9 hn (by omega) (top := top) ht hb58 (by omega)) (d2 := d - 1) (by omega) (Nat.le_of_eq (Nat.zero_add _)) (Nat.le_of_eq (Nat.zero_add _)) (fun r2 h2 hq2 => ?_)
      obtain ⟨K13, rfl, hfK13, hmK13⟩ := hq2
      rcases hoK13 : anS T n top qc with ⟨oK13, qK13⟩
      rw [hoK13] at hmK13
      cases oK13 with
      | none =>
        obtain ⟨rfl, hqK13, hrK13⟩ := hmK13
        refine q_if_eq (tgt := 81) (A := (0 : Int)) (pc2 := 66) d_Re_read_63 rfl rfl (nI_toInt (by omega)) (fun c14 => ?_) (fun c14 => ?_)
        rotate_left
        · exfalso; omega
        refine r_iconst (v := nI 0) (pc2 := 82) d_Re_read_81 rfl (by decide) ?_
        refine r_istore (pc2 := 84) d_Re_read_82 rfl (Nat.le_of_ble_eq_true rfl) ?_
        refine r_iload (pc2 := 86) d_Re_read_84 rfl rfl ?_
        refine q_if_eq (tgt := 93) (A := (0 : Int)) (pc2 := 89) d_Re_read_86 rfl rfl (nI_toInt (by omega)) (fun c15 => ?_) (fun c15 => ?_)
        rotate_left
        · exfalso; omega
        refine r_aload_n (x := some 731) (pc2 := 94) d_Re_read_93 rfl rfl ?_
        refine q_getI (x := nI qK13) (pc2 := 97) d_Re_read_94 rfl k_Re_19 (by decide) (sh_731 hS) hrK13.1.2.1 ?_
        refine Run.ret (some (.int (nI qK13))) d_Re_read_97 ⟨_, rfl⟩ ?_
        have e_ : rdR T n top = (none, qK13) := rdR_a hc hoK13
        refine ⟨_, _, rfl, hR1, (((((((((FrV.rf.p hI2 (by decide)).p hI3 (by decide)).p hI4 (by decide)).p hI5 (by decide)).p hI6 (by decide)).p hI7 (by decide)).p hI8 (by decide)).t hfK9).t hfK13), ?_⟩
        rw [e_]
        exact ⟨rfl, by omega⟩
      | some aK13 =>
        obtain ⟨rfl, hqK13, hrK13, hpK13⟩ := hmK13
        refine q_if_eq (tgt := 81) (A := (1 : Int)) (pc2 := 66) d_Re_read_63 rfl rfl (nI_toInt (by omega)) (fun c16 => ?_) (fun c16 => ?_)
        · exfalso; omega
        refine r_aload_n (x := some 731) (pc2 := 67) d_Re_read_66 rfl rfl ?_
        refine q_getI (x := nI qK13) (pc2 := 70) d_Re_read_67 rfl k_Re_19 (by decide) (sh_731 hS) hrK13.1.2.1 ?_
        refine r_aload_n (x := some 731) (pc2 := 71) d_Re_read_70 rfl rfl ?_
        refine q_getI (x := nI n) (pc2 := 74) d_Re_read_71 rfl k_Re_15 (by decide) (sh_731 hS) hrK13.1.1 ?_
        refine q_icmp_ne (tgt := 81) (A := ((qK13 : Nat) : Int)) (B := ((n : Nat) : Int)) (pc2 := 77) d_Re_read_74 rfl rfl (nI_toInt (by omega)) (nI_toInt (by omega)) (fun c17 => ?_) (fun c17 => ?_)
        · refine r_iconst (v := nI 0) (pc2 := 82) d_Re_read_81 rfl (by decide) ?_
          refine r_istore (pc2 := 84) d_Re_read_82 rfl (Nat.le_of_ble_eq_true rfl) ?_
          refine r_iload (pc2 := 86) d_Re_read_84 rfl rfl ?_
          refine q_if_eq (tgt := 93) (A := (0 : Int)) (pc2 := 89) d_Re_read_86 rfl rfl (nI_toInt (by omega)) (fun c18 => ?_) (fun c18 => ?_)
          rotate_left
          · exfalso; omega
          refine r_aload_n (x := some 731) (pc2 := 94) d_Re_read_93 rfl rfl ?_
          refine q_getI (x := nI qK13) (pc2 := 97) d_Re_read_94 rfl k_Re_19 (by decide) (sh_731 hS) hrK13.1.2.1 ?_
          refine Run.ret (some (.int (nI qK13))) d_Re_read_97 ⟨_, rfl⟩ ?_
          have e_ : rdR T n top = (none, qK13) := rdR_e hc hoK13 (by omega)
          refine ⟨_, _, rfl, hR1, (((((((((FrV.rf.p hI2 (by decide)).p hI3 (by decide)).p hI4 (by decide)).p hI5 (by decide)).p hI6 (by decide)).p hI7 (by decide)).p hI8 (by decide)).t hfK9).t hfK13), ?_⟩
          rw [e_]
          exact ⟨rfl, by omega⟩
        · refine r_iconst (v := nI 1) (pc2 := 78) d_Re_read_77 rfl (by decide) ?_
          refine r_goto (tgt := 82) d_Re_read_78 rfl ?_
          refine r_istore (pc2 := 84) d_Re_read_82 rfl (Nat.le_of_ble_eq_true rfl) ?_
          refine r_iload (pc2 := 86) d_Re_read_84 rfl rfl ?_
          refine q_if_eq (tgt := 93) (A := (1 : Int)) (pc2 := 89) d_Re_read_86 rfl rfl (nI_toInt (by omega)) (fun c19 => ?_) (fun c19 => ?_)
          · exfalso; omega
          refine r_iconst (v := (-1 : Int32)) (pc2 := 90) d_Re_read_89 rfl (by decide) ?_
          refine r_goto (tgt := 97) d_Re_read_90 rfl ?_
          refine Run.ret (some (.int ((-1 : Int32)))) d_Re_read_97 ⟨_, rfl⟩ ?_
          have e_ : rdR T n top = (some (mc, aK13), qK13) := rdR_s hc hoK13 (by omega)
          refine ⟨_, _, rfl, hR1, (((((((((FrV.rf.p hI2 (by decide)).p hI3 (by decide)).p hI4 (by decide)).p hI5 (by decide)).p hI6 (by decide)).p hI7 (by decide)).p hI8 (by decide)).t hfK9).t hfK13), ?_⟩
          rw [e_]
          exact ⟨rfl, hrK13.1.2.2.1, hrK13.2.1, hpK13, Nat.lt_of_le_of_lt (Nat.zero_le _) (hrd3 tc rfl), by omega⟩
    ·
      dsimp only at hmK9
      rw [if_neg hb58] at hmK9
      obtain ⟨rfl, hqc, due, ob, ns, W, Lo, hrK9⟩ := hmK9
      refine q_if_eq (tgt := 81) (A := (0 : Int)) (pc2 := 58) d_Re_read_55 rfl rfl (nI_toInt (by omega)) (fun c20 => ?_) (fun c20 => ?_)
      rotate_left
      · exfalso; omega
      refine r_iconst (v := nI 0) (pc2 := 82) d_Re_read_81 rfl (by decide) ?_
      refine r_istore (pc2 := 84) d_Re_read_82 rfl (Nat.le_of_ble_eq_true rfl) ?_
      refine r_iload (pc2 := 86) d_Re_read_84 rfl rfl ?_
      refine q_if_eq (tgt := 93) (A := (0 : Int)) (pc2 := 89) d_Re_read_86 rfl rfl (nI_toInt (by omega)) (fun c21 => ?_) (fun c21 => ?_)
      rotate_left
      · exfalso; omega
      refine r_aload_n (x := some 731) (pc2 := 94) d_Re_read_93 rfl rfl ?_
      refine q_getI (x := nI qc) (pc2 := 97) d_Re_read_94 rfl k_Re_19 (by decide) (sh_731 hS) hrK9.1.2.1 ?_
      refine Run.ret (some (.int (nI qc))) d_Re_read_97 ⟨_, rfl⟩ ?_
      have e_ : rdR T n top = (none, qc) := rdR_a hc (ans_0 hb58)
      refine ⟨_, _, rfl, hR1, ((((((((FrV.rf.p hI2 (by decide)).p hI3 (by decide)).p hI4 (by decide)).p hI5 (by decide)).p hI6 (by decide)).p hI7 (by decide)).p hI8 (by decide)).t hfK9), ?_⟩
      rw [e_]
      exact ⟨rfl, by omega⟩
