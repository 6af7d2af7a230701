/-! THE READER: a condition -/
theorem l_Re_readCondition {d : Nat} {J : Nat → Nat → Int32} {R : Nat → Nat → Option Nat} {L : Nat → Nat → Int64} {sh : Nat → Nat × Nat} {N : Nat} (hS : ShOK sh) (hR : RfOK R) (hT0 : R 731 0 = some 730) {T : Nat → Int32} {n : Nat} (hn : n ≤ 250) {Q : Option Value → HS → Prop} (hq : ∀ x K, FrV J K → RdC T n (RM T n true 0 [] [] []) x K → Q x (K, R, L, sh, N)) (hd : 6 ≤ d) : ∀ (n_ : Nat) (t q : Nat) (due : Bool) (ns : List Nd) (W Lo : List Nat) (K0 : Nat → Nat → Int32), n - q = n_ → (RS T n q due (opn W) ns W Lo K0) → (FrV J K0) → (RM T n true 0 [] [] [] = RM T n due q ns W Lo) → (MV q due ns W Lo) → (t ≤ q) → (q ≤ n) → Run mi_Re_readCondition d 0 0 2 [(0, .ref 731), (1, .int (nI t))] [] (K0, R, L, sh, N) Q := by
  intro n_
  induction n_ using Nat.strongRecOn with | ind n_ ih_ => ?_
  intro t q due ns W Lo K0 hn_ v0_ v1_ v2_ v3_ v4_ v5_
  refine r_iload_n (pc2 := 3) d_Re_readCondition_2 rfl rfl ?_
  refine r_sipush (v := nI 250) (pc2 := 6) d_Re_readCondition_3 rfl (by decide) ?_
  refine q_icmp_ge (tgt := 112) (A := ((t : Nat) : Int)) (B := (250 : Int)) (pc2 := 9) d_Re_readCondition_6 rfl rfl (nI_toInt (by omega)) (nI_toInt (by omega)) (fun c1 => ?_) (fun c1 => ?_)
  · refine r_iconst (v := nI 0) (pc2 := 113) d_Re_readCondition_112 rfl (by decide) ?_
    refine Run.ret (some (.int (nI 0))) d_Re_readCondition_113 ⟨_, rfl, by decide⟩ ?_
    have e_ : RM T n true 0 [] [] [] = (none, q) := v2_.trans (by rw [RM_s, if_pos (by omega)])
    exact hq _ _ v1_ (by rw [e_]; exact ⟨rfl, by omega, _, _, _, _, _, v0_⟩)
  · refine r_aload_n (x := some 731) (pc2 := 10) d_Re_readCondition_9 rfl rfl ?_
    refine q_getI (x := nI q) (pc2 := 13) d_Re_readCondition_10 rfl k_Re_19 (by decide) (sh_731 hS) v0_.1.2.1 ?_
    refine r_aload_n (x := some 731) (pc2 := 14) d_Re_readCondition_13 rfl rfl ?_
    refine q_getI (x := nI n) (pc2 := 17) d_Re_readCondition_14 rfl k_Re_15 (by decide) (sh_731 hS) v0_.1.1 ?_
    refine q_icmp_ge (tgt := 112) (A := ((q : Nat) : Int)) (B := ((n : Nat) : Int)) (pc2 := 20) d_Re_readCondition_17 rfl rfl (nI_toInt (by omega)) (nI_toInt (by omega)) (fun c2 => ?_) (fun c2 => ?_)
    · refine r_iconst (v := nI 0) (pc2 := 113) d_Re_readCondition_112 rfl (by decide) ?_
      refine Run.ret (some (.int (nI 0))) d_Re_readCondition_113 ⟨_, rfl, by decide⟩ ?_
      have e_ : RM T n true 0 [] [] [] = (none, q) := v2_.trans (by rw [RM_s, if_pos (by omega)])
      exact hq _ _ v1_ (by rw [e_]; exact ⟨rfl, by omega, _, _, _, _, _, v0_⟩)
    · refine r_aload_n (x := some 731) (pc2 := 21) d_Re_readCondition_20 rfl rfl ?_
      refine q_getR (x := some 730) (pc2 := 24) d_Re_readCondition_21 rfl k_Re_9 rfl (sh_731 hS) hT0 ?_
      refine r_aload_n (x := some 731) (pc2 := 25) d_Re_readCondition_24 rfl rfl ?_
      refine q_getI (x := nI q) (pc2 := 28) d_Re_readCondition_25 rfl k_Re_19 (by decide) (sh_731 hS) v0_.1.2.1 ?_
      refine q_iaload (q := q) (x := T q) (pc2 := 29) d_Re_readCondition_28 rfl (sh_730 hS) (nI_toInt (by omega)) (by omega) ((v0_).2.2.2.2 q (by omega)) ?_
      refine r_istore_n (pc2 := 30) d_Re_readCondition_29 rfl rfl (Nat.le_of_ble_eq_true rfl) ?_
      have hlt : (T q).toInt = byt T n q := by unfold byt; rw [if_pos (by omega)]
      cases due with
      | false =>
        obtain ⟨hw1, hw2, hw3, hw4, hw6⟩ := id v3_
        rw [if_neg (by decide)] at hw3
        obtain ⟨hw2, hw5⟩ := hw2 rfl
        have hol := opn_l (W := W)
        refine r_aload_n (x := some 731) (pc2 := 31) d_Re_readCondition_30 rfl rfl ?_
        refine q_getI (x := nI 0) (pc2 := 34) d_Re_readCondition_31 rfl k_Re_58 (by decide) (sh_731 hS) ((v0_.1.2.2.2.2.2.2).trans bI_ff) ?_
        refine q_if_ne (tgt := 67) (A := (0 : Int)) (pc2 := 37) d_Re_readCondition_34 rfl rfl (nI_toInt (by omega)) (fun c3 => ?_) (fun c3 => ?_)
        · exfalso; omega
        refine r_iload_n (pc2 := 38) d_Re_readCondition_37 rfl rfl ?_
        refine r_bipush (v := nI 58) (pc2 := 40) d_Re_readCondition_38 rfl (by decide) ?_
        refine q_icmp_eq (tgt := 49) (A := byt T n q) (B := (58 : Int)) (pc2 := 43) d_Re_readCondition_40 rfl rfl (hlt) (nI_toInt (by omega)) (fun c4 => ?_) (fun c4 => ?_)
        · refine r_aload_n (x := some 731) (pc2 := 50) d_Re_readCondition_49 rfl rfl ?_
          refine r_iconst (v := nI 1) (pc2 := 51) d_Re_readCondition_50 rfl (by decide) ?_
          refine q_top (y := bI (true = true)) bI_tt.symm ?_
          refine r_callv (M2 := mi_Re_joinWaiting) (pc2 := 54) d_Re_readCondition_51 rfl k_Re_81 cm_Re_joinWaiting cv_Re_joinWaiting (sh_731 hS) (by decide) rfl rfl rfl (Nat.le_of_ble_eq_true rfl) (c_Re_joinWaiting hS hR hT0 v0_ hn (by omega) (e := true) (by omega) hw1 hw3 (by omega) (by omega) hw5) (d2 := d - 1) (by omega) (Nat.le_of_eq (Nat.zero_add _)) (Nat.le_of_eq (Nat.zero_add _)) (fun r2 h2 hq2 => ?_)
          obtain ⟨rfl, K5, rfl, hfK5, hrK5⟩ := hq2
          have hjK5 := jn_ok (e := true) (ns := ns) (W := W) (Lo := Lo) hw1 hw2 hw3
          obtain ⟨rK5, erK5⟩ : ∃ r, r = jn ns W Lo true := ⟨_, rfl⟩
          rw [← erK5] at hrK5 hjK5
          obtain ⟨⟨jk1, jk2, jk3, jk4, jk5, jk6⟩, jk7⟩ := hjK5
          refine r_aload_n (x := some 731) (pc2 := 55) d_Re_readCondition_54 rfl rfl ?_
          refine q_getI (x := nI (opn W)) (pc2 := 58) d_Re_readCondition_55 rfl k_Re_55 (by decide) (sh_731 hS) hrK5.1.2.2.2.2.2.1 ?_
          refine q_if_ne (tgt := 65) (A := ((opn W : Nat) : Int)) (pc2 := 61) d_Re_readCondition_58 rfl rfl (nI_toInt (by omega)) (fun c6 => ?_) (fun c6 => ?_)
          · refine r_iconst (v := nI 0) (pc2 := 66) d_Re_readCondition_65 rfl (by decide) ?_
            refine Run.ret (some (.int (nI 0))) d_Re_readCondition_66 ⟨_, rfl, by decide⟩ ?_
            have e_ : RM T n true 0 [] [] [] = (none, q) := v2_.trans (by rw [RM_s, if_neg (by omega), if_neg (by decide), if_pos (by omega), if_neg (by omega)])
            exact hq _ _ (v1_.t hfK5) (by rw [e_]; exact ⟨rfl, by omega, _, _, _, _, _, hrK5⟩)
          · refine r_iconst (v := nI 1) (pc2 := 62) d_Re_readCondition_61 rfl (by decide) ?_
            refine r_goto (tgt := 66) d_Re_readCondition_62 rfl ?_
            refine Run.ret (some (.int (nI 1))) d_Re_readCondition_66 ⟨_, rfl, by decide⟩ ?_
            have ho0 : opn W = 0 := by omega
            have e_ : RM T n true 0 [] [] [] = (some rK5.1, q) := v2_.trans (by rw [RM_s, if_neg (by omega), if_neg (by decide), if_pos (by omega), if_pos ho0, erK5])
            rw [ho0] at hrK5
            exact hq _ _ (v1_.t hfK5) (by rw [e_]; exact ⟨rfl, by omega, by omega, by omega, _, _, hrK5⟩)
        · refine r_iload_n (pc2 := 44) d_Re_readCondition_43 rfl rfl ?_
          refine r_bipush (v := nI 37) (pc2 := 46) d_Re_readCondition_44 rfl (by decide) ?_
          refine q_icmp_ne (tgt := 67) (A := byt T n q) (B := (37 : Int)) (pc2 := 49) d_Re_readCondition_46 rfl rfl (hlt) (nI_toInt (by omega)) (fun c7 => ?_) (fun c7 => ?_)
          · refine r_aload_n (x := some 731) (pc2 := 68) d_Re_readCondition_67 rfl rfl ?_
            refine q_getI (x := nI 0) (pc2 := 71) d_Re_readCondition_68 rfl k_Re_58 (by decide) (sh_731 hS) ((v0_.1.2.2.2.2.2.2).trans bI_ff) ?_
            refine q_if_eq (tgt := 85) (A := (0 : Int)) (pc2 := 74) d_Re_readCondition_71 rfl rfl (nI_toInt (by omega)) (fun c8 => ?_) (fun c8 => ?_)
            rotate_left
            · exfalso; omega
            by_cases hk1 : byt T n q = 38
            · have hk := hk1
              refine r_aload_n (x := some 731) (pc2 := 86) d_Re_readCondition_85 rfl rfl ?_
              refine r_iload_n (pc2 := 87) d_Re_readCondition_86 rfl rfl ?_
              refine q_top (y := nI 38) (eq_nI (by rw [hlt]; exact hk)) ?_
              refine r_callv (M2 := mi_Re_readOperator) (pc2 := 90) d_Re_readCondition_87 rfl k_Re_88 cm_Re_readOperator cv_Re_readOperator (sh_731 hS) (by decide) rfl rfl rfl (Nat.le_of_ble_eq_true rfl) (c_Re_readOperator_38 hS hR hT0 v0_ hn (by omega) hw1 hw2 hw3 (by omega) hw5 (by omega) (by omega)) (d2 := d - 1) (by omega) (Nat.le_of_eq (Nat.zero_add _)) (Nat.le_of_eq (Nat.zero_add _)) (fun r2 h2 hq2 => ?_)
              obtain ⟨rfl, K9, rfl, hfK9, hrK9⟩ := hq2
              refine q_if_ne (tgt := 95) (A := (1 : Int)) (pc2 := 93) d_Re_readCondition_90 rfl rfl (nI_toInt (by omega)) (fun c10 => ?_) (fun c10 => ?_)
              rotate_left
              · exfalso; omega
              refine r_aload_n (x := some 731) (pc2 := 96) d_Re_readCondition_95 rfl rfl ?_
              refine q_getI (x := nI 1) (pc2 := 99) d_Re_readCondition_96 rfl k_Re_58 (by decide) (sh_731 hS) ((hrK9.1.2.2.2.2.2.2).trans bI_tt) ?_
              refine q_if_ne (tgt := 106) (A := (1 : Int)) (pc2 := 102) d_Re_readCondition_99 rfl rfl (nI_toInt (by omega)) (fun c11 => ?_) (fun c11 => ?_)
              rotate_left
              · exfalso; omega
              refine q_iinc (b := 1) (pc2 := 109) d_Re_readCondition_106 rfl rfl (by decide) (Nat.le_of_ble_eq_true rfl) ?_
              refine r_goto (tgt := 2) d_Re_readCondition_109 rfl ?_
              refine Run.sub (l2 := [(0, .ref 731), (1, .int (nI (t + 1)))]) ⟨rfl, rfl, trivial⟩ ?_
              exact ih_ (n - (q + 1)) (by omega) (t + 1) (q + 1) true ((jn ns W Lo false).1) (38 :: (jn ns W Lo false).2.1) ((jn ns W Lo false).2.2) K9 rfl (by rw [opn_c, if_neg (by decide), Nat.zero_add, (jn_ok (e := false) (ns := ns) hw1 hw2 hw3).1.2.2.2.2.2]; exact hrK9) ((v1_.t hfK9)) (v2_.trans (by rw [RM_s, if_neg (by omega), if_neg (by decide), if_neg (by omega), if_pos hk])) (v3_.bi (Or.inl rfl) (jn_ok hw1 hw2 hw3).1) (by omega) (by omega)
            by_cases hk2 : byt T n q = 124
            · have hk := hk2
              refine r_aload_n (x := some 731) (pc2 := 86) d_Re_readCondition_85 rfl rfl ?_
              refine r_iload_n (pc2 := 87) d_Re_readCondition_86 rfl rfl ?_
              refine q_top (y := nI 124) (eq_nI (by rw [hlt]; exact hk)) ?_
              refine r_callv (M2 := mi_Re_readOperator) (pc2 := 90) d_Re_readCondition_87 rfl k_Re_88 cm_Re_readOperator cv_Re_readOperator (sh_731 hS) (by decide) rfl rfl rfl (Nat.le_of_ble_eq_true rfl) (c_Re_readOperator_124 hS hR hT0 v0_ hn (by omega) hw1 hw2 hw3 (by omega) hw5 (by omega) (by omega)) (d2 := d - 1) (by omega) (Nat.le_of_eq (Nat.zero_add _)) (Nat.le_of_eq (Nat.zero_add _)) (fun r2 h2 hq2 => ?_)
              obtain ⟨rfl, K12, rfl, hfK12, hrK12⟩ := hq2
              refine q_if_ne (tgt := 95) (A := (1 : Int)) (pc2 := 93) d_Re_readCondition_90 rfl rfl (nI_toInt (by omega)) (fun c13 => ?_) (fun c13 => ?_)
              rotate_left
              · exfalso; omega
              refine r_aload_n (x := some 731) (pc2 := 96) d_Re_readCondition_95 rfl rfl ?_
              refine q_getI (x := nI 1) (pc2 := 99) d_Re_readCondition_96 rfl k_Re_58 (by decide) (sh_731 hS) ((hrK12.1.2.2.2.2.2.2).trans bI_tt) ?_
              refine q_if_ne (tgt := 106) (A := (1 : Int)) (pc2 := 102) d_Re_readCondition_99 rfl rfl (nI_toInt (by omega)) (fun c14 => ?_) (fun c14 => ?_)
              rotate_left
              · exfalso; omega
              refine q_iinc (b := 1) (pc2 := 109) d_Re_readCondition_106 rfl rfl (by decide) (Nat.le_of_ble_eq_true rfl) ?_
              refine r_goto (tgt := 2) d_Re_readCondition_109 rfl ?_
              refine Run.sub (l2 := [(0, .ref 731), (1, .int (nI (t + 1)))]) ⟨rfl, rfl, trivial⟩ ?_
              exact ih_ (n - (q + 1)) (by omega) (t + 1) (q + 1) true ((jn ns W Lo true).1) (124 :: (jn ns W Lo true).2.1) ((jn ns W Lo true).2.2) K12 rfl (by rw [opn_c, if_neg (by decide), Nat.zero_add, (jn_ok (e := true) (ns := ns) hw1 hw2 hw3).1.2.2.2.2.2]; exact hrK12) ((v1_.t hfK12)) (v2_.trans (by rw [RM_s, if_neg (by omega), if_neg (by decide), if_neg (by omega), if_neg (by omega), if_pos hk])) (v3_.bi (Or.inr rfl) (jn_ok hw1 hw2 hw3).1) (by omega) (by omega)
            by_cases hk3 : byt T n q = 41 ∧ opn W ≠ 0
            · have hk := hk3
              refine r_aload_n (x := some 731) (pc2 := 86) d_Re_readCondition_85 rfl rfl ?_
              refine r_iload_n (pc2 := 87) d_Re_readCondition_86 rfl rfl ?_
              refine q_top (y := nI 41) (eq_nI (by rw [hlt]; exact hk.1)) ?_
              refine r_callv (M2 := mi_Re_readOperator) (pc2 := 90) d_Re_readCondition_87 rfl k_Re_88 cm_Re_readOperator cv_Re_readOperator (sh_731 hS) (by decide) rfl rfl rfl (Nat.le_of_ble_eq_true rfl) (c_Re_readOperator_41 hS hR hT0 v0_ hn (by omega) hw1 hw2 hw3 (by omega) hw5 (by omega) hk.2 (by omega)) (d2 := d - 1) (by omega) (Nat.le_of_eq (Nat.zero_add _)) (Nat.le_of_eq (Nat.zero_add _)) (fun r2 h2 hq2 => ?_)
              obtain ⟨rfl, K15, rfl, hfK15, hrK15⟩ := hq2
              refine q_if_ne (tgt := 95) (A := (1 : Int)) (pc2 := 93) d_Re_readCondition_90 rfl rfl (nI_toInt (by omega)) (fun c16 => ?_) (fun c16 => ?_)
              rotate_left
              · exfalso; omega
              refine r_aload_n (x := some 731) (pc2 := 96) d_Re_readCondition_95 rfl rfl ?_
              refine q_getI (x := nI 0) (pc2 := 99) d_Re_readCondition_96 rfl k_Re_58 (by decide) (sh_731 hS) ((hrK15.1.2.2.2.2.2.2).trans bI_ff) ?_
              refine q_if_ne (tgt := 106) (A := (0 : Int)) (pc2 := 102) d_Re_readCondition_99 rfl rfl (nI_toInt (by omega)) (fun c17 => ?_) (fun c17 => ?_)
              · exfalso; omega
              obtain ⟨⟨jk1, jk2, jk3, jk4, jk5, jk6⟩, jk7⟩ := jn_ok (e := true) (ns := ns) hw1 hw2 hw3
              obtain ⟨hq1, hq2⟩ := okW_40 jk1 jk2 (jk7 rfl) (by omega)
              obtain ⟨hb1, hb2, hb3⟩ := bns_t hq1
              rw [if_neg (by omega)] at hb1
              rw [if_pos hq2] at hb2 hb3
              have hn1 := okW_t jk1
              have hn3 : (jn ns W Lo true).2.2.length = bns (jn ns W Lo true).2.1.tail + 1 := by omega
              have hn4 : (jn ns W Lo true).1.length + nob (jn ns W Lo true).2.1.tail ≤ q + 1 := by omega
              have hn6 := jn_len (e := true) hw1 hw2 hw3 hw5
              have hn5 : (jn ns W Lo true).2.1.tail.length ≤ q + 1 := by rw [List.length_tail]; omega
              obtain ⟨-, -, -, -, -, hno⟩ := ng_ok (ns := (jn ns W Lo true).1) hn1 hn3
              refine r_aload_n (x := some 731) (pc2 := 103) d_Re_readCondition_102 rfl rfl ?_
              refine r_callv (M2 := mi_Re_negate) (pc2 := 106) d_Re_readCondition_103 rfl k_Re_91 cm_Re_negate cv_Re_negate (sh_731 hS) (by decide) rfl rfl rfl (Nat.le_of_ble_eq_true rfl) (c_Re_negate hS hR hT0 hrK15 hn (by omega) (by omega) hn1 hn3 hn4 (by omega)) (d2 := d - 1) (by omega) (Nat.le_of_eq (Nat.zero_add _)) (Nat.le_of_eq (Nat.zero_add _)) (fun r2 h2 hq2 => ?_)
              obtain ⟨rfl, K18, rfl, hfK18, hrK18⟩ := hq2
              refine q_iinc (b := 1) (pc2 := 109) d_Re_readCondition_106 rfl rfl (by decide) (Nat.le_of_ble_eq_true rfl) ?_
              refine r_goto (tgt := 2) d_Re_readCondition_109 rfl ?_
              refine Run.sub (l2 := [(0, .ref 731), (1, .int (nI (t + 1)))]) ⟨rfl, rfl, trivial⟩ ?_
              exact ih_ (n - (q + 1)) (by omega) (t + 1) (q + 1) false ((ng ((jn ns W Lo true).1) ((jn ns W Lo true).2.1.tail) ((jn ns W Lo true).2.2)).1) ((ng ((jn ns W Lo true).1) ((jn ns W Lo true).2.1.tail) ((jn ns W Lo true).2.2)).2.1) ((ng ((jn ns W Lo true).1) ((jn ns W Lo true).2.1.tail) ((jn ns W Lo true).2.2)).2.2) K18 rfl (by rw [hno, show opn (jn ns W Lo true).2.1.tail = opn W - 1 by omega]; exact hrK18) (((v1_.t hfK15).t hfK18)) (v2_.trans (by rw [RM_s, if_neg (by omega), if_neg (by decide), if_neg (by omega), if_neg (by omega), if_neg (by omega), if_pos hk]; rfl)) (MV.ng hn1 hn3 hn4 hn5 hn6) (by omega) (by omega)
            refine r_aload_n (x := some 731) (pc2 := 86) d_Re_readCondition_85 rfl rfl ?_
            refine r_iload_n (pc2 := 87) d_Re_readCondition_86 rfl rfl ?_
            refine r_callv (M2 := mi_Re_readOperator) (pc2 := 90) d_Re_readCondition_87 rfl k_Re_88 cm_Re_readOperator cv_Re_readOperator (sh_731 hS) (by decide) rfl rfl rfl (Nat.le_of_ble_eq_true rfl) (c_Re_readOperator_o hS hR hT0 v0_ hn (by omega) hw1 hw2 hw3 (by omega) hw5 (by omega) (l := T q) hlt hk1 hk2 hk3 (by omega)) (d2 := d - 1) (by omega) (Nat.le_of_eq (Nat.zero_add _)) (Nat.le_of_eq (Nat.zero_add _)) (fun r2 h2 hq2 => ?_)
            obtain ⟨rfl, K19, rfl, hfK19, hrK19⟩ := hq2
            refine q_if_ne (tgt := 95) (A := (0 : Int)) (pc2 := 93) d_Re_readCondition_90 rfl rfl (nI_toInt (by omega)) (fun c20 => ?_) (fun c20 => ?_)
            · exfalso; omega
            refine r_iconst (v := nI 0) (pc2 := 94) d_Re_readCondition_93 rfl (by decide) ?_
            refine Run.ret (some (.int (nI 0))) d_Re_readCondition_94 ⟨_, rfl, by decide⟩ ?_
            have e_ : RM T n true 0 [] [] [] = (none, q) := v2_.trans (by rw [RM_s, if_neg (by omega), if_neg (by decide), if_neg (by omega), if_neg hk1, if_neg hk2, if_neg hk3])
            exact hq _ _ (v1_.t hfK19) (by rw [e_]; exact ⟨rfl, by omega, _, _, _, _, _, hrK19⟩)
          · refine r_aload_n (x := some 731) (pc2 := 50) d_Re_readCondition_49 rfl rfl ?_
            refine r_iconst (v := nI 1) (pc2 := 51) d_Re_readCondition_50 rfl (by decide) ?_
            refine q_top (y := bI (true = true)) bI_tt.symm ?_
            refine r_callv (M2 := mi_Re_joinWaiting) (pc2 := 54) d_Re_readCondition_51 rfl k_Re_81 cm_Re_joinWaiting cv_Re_joinWaiting (sh_731 hS) (by decide) rfl rfl rfl (Nat.le_of_ble_eq_true rfl) (c_Re_joinWaiting hS hR hT0 v0_ hn (by omega) (e := true) (by omega) hw1 hw3 (by omega) (by omega) hw5) (d2 := d - 1) (by omega) (Nat.le_of_eq (Nat.zero_add _)) (Nat.le_of_eq (Nat.zero_add _)) (fun r2 h2 hq2 => ?_)
            obtain ⟨rfl, K21, rfl, hfK21, hrK21⟩ := hq2
            have hjK21 := jn_ok (e := true) (ns := ns) (W := W) (Lo := Lo) hw1 hw2 hw3
            obtain ⟨rK21, erK21⟩ : ∃ r, r = jn ns W Lo true := ⟨_, rfl⟩
            rw [← erK21] at hrK21 hjK21
            obtain ⟨⟨jk1, jk2, jk3, jk4, jk5, jk6⟩, jk7⟩ := hjK21
            refine r_aload_n (x := some 731) (pc2 := 55) d_Re_readCondition_54 rfl rfl ?_
            refine q_getI (x := nI (opn W)) (pc2 := 58) d_Re_readCondition_55 rfl k_Re_55 (by decide) (sh_731 hS) hrK21.1.2.2.2.2.2.1 ?_
            refine q_if_ne (tgt := 65) (A := ((opn W : Nat) : Int)) (pc2 := 61) d_Re_readCondition_58 rfl rfl (nI_toInt (by omega)) (fun c22 => ?_) (fun c22 => ?_)
            · refine r_iconst (v := nI 0) (pc2 := 66) d_Re_readCondition_65 rfl (by decide) ?_
              refine Run.ret (some (.int (nI 0))) d_Re_readCondition_66 ⟨_, rfl, by decide⟩ ?_
              have e_ : RM T n true 0 [] [] [] = (none, q) := v2_.trans (by rw [RM_s, if_neg (by omega), if_neg (by decide), if_pos (by omega), if_neg (by omega)])
              exact hq _ _ (v1_.t hfK21) (by rw [e_]; exact ⟨rfl, by omega, _, _, _, _, _, hrK21⟩)
            · refine r_iconst (v := nI 1) (pc2 := 62) d_Re_readCondition_61 rfl (by decide) ?_
              refine r_goto (tgt := 66) d_Re_readCondition_62 rfl ?_
              refine Run.ret (some (.int (nI 1))) d_Re_readCondition_66 ⟨_, rfl, by decide⟩ ?_
              have ho0 : opn W = 0 := by omega
              have e_ : RM T n true 0 [] [] [] = (some rK21.1, q) := v2_.trans (by rw [RM_s, if_neg (by omega), if_neg (by decide), if_pos (by omega), if_pos ho0, erK21])
              rw [ho0] at hrK21
              exact hq _ _ (v1_.t hfK21) (by rw [e_]; exact ⟨rfl, by omega, by omega, by omega, _, _, hrK21⟩)
      | true =>
        obtain ⟨hw1, hw2, hw3, hw4, hw6⟩ := id v3_
        rw [if_pos rfl] at hw3
        clear hw2
        have hbl := bns_le (W := W)
        have hol := opn_l (W := W)
        refine r_aload_n (x := some 731) (pc2 := 31) d_Re_readCondition_30 rfl rfl ?_
        refine q_getI (x := nI 1) (pc2 := 34) d_Re_readCondition_31 rfl k_Re_58 (by decide) (sh_731 hS) ((v0_.1.2.2.2.2.2.2).trans bI_tt) ?_
        refine q_if_ne (tgt := 67) (A := (1 : Int)) (pc2 := 37) d_Re_readCondition_34 rfl rfl (nI_toInt (by omega)) (fun c23 => ?_) (fun c23 => ?_)
        rotate_left
        · exfalso; omega
        refine r_aload_n (x := some 731) (pc2 := 68) d_Re_readCondition_67 rfl rfl ?_
        refine q_getI (x := nI 1) (pc2 := 71) d_Re_readCondition_68 rfl k_Re_58 (by decide) (sh_731 hS) ((v0_.1.2.2.2.2.2.2).trans bI_tt) ?_
        refine q_if_eq (tgt := 85) (A := (1 : Int)) (pc2 := 74) d_Re_readCondition_71 rfl rfl (nI_toInt (by omega)) (fun c24 => ?_) (fun c24 => ?_)
        · exfalso; omega
        by_cases hk1 : byt T n q = 33
        · have hk := hk1
          refine r_aload_n (x := some 731) (pc2 := 75) d_Re_readCondition_74 rfl rfl ?_
          refine r_iload_n (pc2 := 76) d_Re_readCondition_75 rfl rfl ?_
          refine q_top (y := nI 33) (eq_nI (by rw [hlt]; exact hk)) ?_
          refine r_callv (M2 := mi_Re_readOperand) (pc2 := 79) d_Re_readCondition_76 rfl k_Re_85 cm_Re_readOperand cv_Re_readOperand (sh_731 hS) (by decide) rfl rfl rfl (Nat.le_of_ble_eq_true rfl) (c_Re_readOperand_33 hS hR hT0 v0_ hn (by omega) (by omega) (by omega) (by omega)) (d2 := d - 1) (by omega) (Nat.le_of_eq (Nat.zero_add _)) (Nat.le_of_eq (Nat.zero_add _)) (fun r2 h2 hq2 => ?_)
          obtain ⟨rfl, K25, rfl, hfK25, hrK25⟩ := hq2
          refine q_if_eq (tgt := 93) (A := (1 : Int)) (pc2 := 82) d_Re_readCondition_79 rfl rfl (nI_toInt (by omega)) (fun c26 => ?_) (fun c26 => ?_)
          · exfalso; omega
          refine r_goto (tgt := 95) d_Re_readCondition_82 rfl ?_
          refine r_aload_n (x := some 731) (pc2 := 96) d_Re_readCondition_95 rfl rfl ?_
          refine q_getI (x := nI 1) (pc2 := 99) d_Re_readCondition_96 rfl k_Re_58 (by decide) (sh_731 hS) ((hrK25.1.2.2.2.2.2.2).trans bI_tt) ?_
          refine q_if_ne (tgt := 106) (A := (1 : Int)) (pc2 := 102) d_Re_readCondition_99 rfl rfl (nI_toInt (by omega)) (fun c27 => ?_) (fun c27 => ?_)
          rotate_left
          · exfalso; omega
          refine q_iinc (b := 1) (pc2 := 109) d_Re_readCondition_106 rfl rfl (by decide) (Nat.le_of_ble_eq_true rfl) ?_
          refine r_goto (tgt := 2) d_Re_readCondition_109 rfl ?_
          refine Run.sub (l2 := [(0, .ref 731), (1, .int (nI (t + 1)))]) ⟨rfl, rfl, trivial⟩ ?_
          exact ih_ (n - (q + 1)) (by omega) (t + 1) (q + 1) true ns (33 :: W) Lo K25 rfl (by rw [opn_c, if_neg (by decide), Nat.zero_add]; exact hrK25) ((v1_.t hfK25)) (v2_.trans (by rw [RM_s, if_neg (by omega), if_pos rfl, if_pos hk])) (v3_.pu (Or.inl rfl)) (by omega) (by omega)
        by_cases hk2 : byt T n q = 40
        · have hk := hk2
          refine r_aload_n (x := some 731) (pc2 := 75) d_Re_readCondition_74 rfl rfl ?_
          refine r_iload_n (pc2 := 76) d_Re_readCondition_75 rfl rfl ?_
          refine q_top (y := nI 40) (eq_nI (by rw [hlt]; exact hk)) ?_
          refine r_callv (M2 := mi_Re_readOperand) (pc2 := 79) d_Re_readCondition_76 rfl k_Re_85 cm_Re_readOperand cv_Re_readOperand (sh_731 hS) (by decide) rfl rfl rfl (Nat.le_of_ble_eq_true rfl) (c_Re_readOperand_40 hS hR hT0 v0_ hn (by omega) (by omega) (by omega) (by omega)) (d2 := d - 1) (by omega) (Nat.le_of_eq (Nat.zero_add _)) (Nat.le_of_eq (Nat.zero_add _)) (fun r2 h2 hq2 => ?_)
          obtain ⟨rfl, K28, rfl, hfK28, hrK28⟩ := hq2
          refine q_if_eq (tgt := 93) (A := (1 : Int)) (pc2 := 82) d_Re_readCondition_79 rfl rfl (nI_toInt (by omega)) (fun c29 => ?_) (fun c29 => ?_)
          · exfalso; omega
          refine r_goto (tgt := 95) d_Re_readCondition_82 rfl ?_
          refine r_aload_n (x := some 731) (pc2 := 96) d_Re_readCondition_95 rfl rfl ?_
          refine q_getI (x := nI 1) (pc2 := 99) d_Re_readCondition_96 rfl k_Re_58 (by decide) (sh_731 hS) ((hrK28.1.2.2.2.2.2.2).trans bI_tt) ?_
          refine q_if_ne (tgt := 106) (A := (1 : Int)) (pc2 := 102) d_Re_readCondition_99 rfl rfl (nI_toInt (by omega)) (fun c30 => ?_) (fun c30 => ?_)
          rotate_left
          · exfalso; omega
          refine q_iinc (b := 1) (pc2 := 109) d_Re_readCondition_106 rfl rfl (by decide) (Nat.le_of_ble_eq_true rfl) ?_
          refine r_goto (tgt := 2) d_Re_readCondition_109 rfl ?_
          refine Run.sub (l2 := [(0, .ref 731), (1, .int (nI (t + 1)))]) ⟨rfl, rfl, trivial⟩ ?_
          exact ih_ (n - (q + 1)) (by omega) (t + 1) (q + 1) true ns (40 :: W) Lo K28 rfl (by rw [opn_c, if_pos rfl, Nat.add_comm 1 (opn W)]; exact hrK28) ((v1_.t hfK28)) (v2_.trans (by rw [RM_s, if_neg (by omega), if_pos rfl, if_neg (by omega), if_pos hk])) (v3_.pu (Or.inr rfl)) (by omega) (by omega)
        refine r_aload_n (x := some 731) (pc2 := 75) d_Re_readCondition_74 rfl rfl ?_
        refine r_iload_n (pc2 := 76) d_Re_readCondition_75 rfl rfl ?_
        refine r_callv (M2 := mi_Re_readOperand) (pc2 := 79) d_Re_readCondition_76 rfl k_Re_85 cm_Re_readOperand cv_Re_readOperand (sh_731 hS) (by decide) rfl rfl rfl (Nat.le_of_ble_eq_true rfl) (c_Re_readOperand_o hS hR hT0 v0_ hn (by omega) (l := T q) hlt hk1 hk2 (by omega) (by omega) (by omega)) (d2 := d - 1) (by omega) (Nat.le_of_eq (Nat.zero_add _)) (Nat.le_of_eq (Nat.zero_add _)) (fun r2 h2 hq2 => ?_)
        obtain ⟨K31, rfl, hfK31, hmK31⟩ := hq2
        have hoo := opd_ok (T := T) (n := n) (p := q) (by omega)
        cases hoK31 : opd T n q with
        | inl qK31 =>
          rw [hoK31] at hmK31
          obtain ⟨rfl, hrK31⟩ := hmK31
          have hopK31 := hoo.1 qK31 hoK31
          refine q_if_eq (tgt := 93) (A := (0 : Int)) (pc2 := 82) d_Re_readCondition_79 rfl rfl (nI_toInt (by omega)) (fun c32 => ?_) (fun c32 => ?_)
          rotate_left
          · exfalso; omega
          refine r_iconst (v := nI 0) (pc2 := 94) d_Re_readCondition_93 rfl (by decide) ?_
          refine Run.ret (some (.int (nI 0))) d_Re_readCondition_94 ⟨_, rfl, by decide⟩ ?_
          have e_ : RM T n true 0 [] [] [] = (none, qK31) := v2_.trans (by rw [RM_s, if_neg (by omega), if_pos rfl, if_neg hk1, if_neg hk2, hoK31])
          exact hq _ _ (v1_.t hfK31) (by rw [e_]; exact ⟨rfl, by omega, _, _, _, _, _, hrK31⟩)
        | inr rK31 =>
          obtain ⟨qK31, xK31⟩ := rK31
          rw [hoK31] at hmK31
          obtain ⟨rfl, hrK31⟩ := hmK31
          have hopK31 := hoo.2 qK31 xK31 hoK31
          refine q_if_eq (tgt := 93) (A := (1 : Int)) (pc2 := 82) d_Re_readCondition_79 rfl rfl (nI_toInt (by omega)) (fun c33 => ?_) (fun c33 => ?_)
          · exfalso; omega
          refine r_goto (tgt := 95) d_Re_readCondition_82 rfl ?_
          refine r_aload_n (x := some 731) (pc2 := 96) d_Re_readCondition_95 rfl rfl ?_
          refine q_getI (x := nI 0) (pc2 := 99) d_Re_readCondition_96 rfl k_Re_58 (by decide) (sh_731 hS) ((hrK31.1.2.2.2.2.2.2).trans bI_ff) ?_
          refine q_if_ne (tgt := 106) (A := (0 : Int)) (pc2 := 102) d_Re_readCondition_99 rfl rfl (nI_toInt (by omega)) (fun c34 => ?_) (fun c34 => ?_)
          · exfalso; omega
          have hn1 := hw1
          have hn3 : (ns.length :: Lo).length = bns W + 1 := by rw [List.length_cons]; omega
          have hn4 : (ns ++ [xK31]).length + nob W ≤ qK31 := by rw [len_sg]; omega
          have hn6 : 1 ≤ (ns ++ [xK31]).length := by rw [len_sg]; omega
          have hn5 : W.length ≤ qK31 := by omega
          obtain ⟨-, -, -, -, -, hno⟩ := ng_ok (ns := ns ++ [xK31]) hn1 hn3
          refine r_aload_n (x := some 731) (pc2 := 103) d_Re_readCondition_102 rfl rfl ?_
          refine r_callv (M2 := mi_Re_negate) (pc2 := 106) d_Re_readCondition_103 rfl k_Re_91 cm_Re_negate cv_Re_negate (sh_731 hS) (by decide) rfl rfl rfl (Nat.le_of_ble_eq_true rfl) (c_Re_negate hS hR hT0 hrK31 hn (by omega) (by omega) hn1 hn3 hn4 (by omega)) (d2 := d - 1) (by omega) (Nat.le_of_eq (Nat.zero_add _)) (Nat.le_of_eq (Nat.zero_add _)) (fun r2 h2 hq2 => ?_)
          obtain ⟨rfl, K35, rfl, hfK35, hrK35⟩ := hq2
          refine q_iinc (b := 1) (pc2 := 109) d_Re_readCondition_106 rfl rfl (by decide) (Nat.le_of_ble_eq_true rfl) ?_
          refine r_goto (tgt := 2) d_Re_readCondition_109 rfl ?_
          refine Run.sub (l2 := [(0, .ref 731), (1, .int (nI (t + 1)))]) ⟨rfl, rfl, trivial⟩ ?_
          exact ih_ (n - qK31) (by omega) (t + 1) qK31 false ((ng (ns ++ [xK31]) W (ns.length :: Lo)).1) ((ng (ns ++ [xK31]) W (ns.length :: Lo)).2.1) ((ng (ns ++ [xK31]) W (ns.length :: Lo)).2.2) K35 rfl (by rw [hno]; exact hrK35) (((v1_.t hfK31).t hfK35)) (v2_.trans (by rw [RM_s, if_neg (by omega), if_pos rfl, if_neg hk1, if_neg hk2, hoK31]; rfl)) (MV.ng hn1 hn3 hn4 hn5 hn6) (by omega) (by omega)
theorem c_Re_readCondition {d : Nat} {J : Nat → Nat → Int32} {R : Nat → Nat → Option Nat} {L : Nat → Nat → Int64} {sh : Nat → Nat × Nat} {N : Nat} (hS : ShOK sh) (hR : RfOK R) (hT0 : R 731 0 = some 730) {T : Nat → Int32} {n : Nat} (hn : n ≤ 250) {K1 : Nat → Nat → Int32} (hr : RS T n 0 true 0 [] [] [] J) (hd : 8 ≤ d) : Mt mi_Re_readCondition d 0 0 [.ref 731] (J, R, L, sh, N) (fun x h2 => ∃ K, h2 = (K, R, L, sh, N) ∧ FrV J K ∧ RdC T n (RM T n true 0 [] [] []) x K) := by
  refine Mt.of pn_Re (Nat.le_of_ble_eq_true rfl) ?_
  show Run mi_Re_readCondition d 0 0 0 [(0, .ref 731)] [] (J, R, L, sh, N) _
  refine r_iconst (v := nI 0) (pc2 := 1) d_Re_readCondition_0 rfl (by decide) ?_
  refine r_istore_n (pc2 := 2) d_Re_readCondition_1 rfl rfl (Nat.le_of_ble_eq_true rfl) ?_
  refine Run.sub (l2 := [(0, .ref 731), (1, .int (nI 0))]) ⟨rfl, rfl, trivial⟩ ?_
  exact l_Re_readCondition hS hR hT0 hn (fun x K a b => ⟨K, rfl, a, b⟩) (by omega) _ 0 0 true [] [] [] J rfl hr FrV.rf rfl ⟨trivial, fun z => by (cases z), rfl, Nat.le_refl _, Nat.le_refl _⟩ (Nat.le_refl _) (Nat.zero_le _)
