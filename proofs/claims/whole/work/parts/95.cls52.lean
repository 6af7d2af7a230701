/-! THE READER: operands, operators -/
theorem c_Re_readOperand_33 {d : Nat} {J : Nat → Nat → Int32} {R : Nat → Nat → Option Nat} {L : Nat → Nat → Int64} {sh : Nat → Nat × Nat} {N : Nat} (hS : ShOK sh) (hR : RfOK R) (hT0 : R 731 0 = some 730) {T : Nat → Int32} {n p : Nat} {ob : Nat} {ns : List Nd} {W Lo : List Nat} (hr : RS T n p true ob ns W Lo J) (hn : n ≤ 250) (hp : p < n) (h1 : W.length < 250) (hob : ob ≤ 250) (hd : 4 ≤ d) : Mt mi_Re_readOperand d 0 0 [.ref 731, .int (nI 33)] (J, R, L, sh, N) (fun x h2 => x = some (.int (nI 1)) ∧ ∃ K, h2 = (K, R, L, sh, N) ∧ FrV J K ∧ RS T n (p + 1) true ob ns (33 :: W) Lo K) := by
  refine Mt.of pn_Re (Nat.le_of_ble_eq_true rfl) ?_
  show Run mi_Re_readOperand d 0 0 0 [(0, .ref 731), (1, .int (nI 33))] [] (J, R, L, sh, N) _
  refine r_iload_n (pc2 := 1) d_Re_readOperand_0 rfl rfl ?_
  refine r_bipush (v := nI 33) (pc2 := 3) d_Re_readOperand_1 rfl (by decide) ?_
  refine q_icmp_eq (tgt := 12) (A := (33 : Int)) (B := (33 : Int)) (pc2 := 6) d_Re_readOperand_3 rfl rfl (nI_toInt (by omega)) (nI_toInt (by omega)) (fun c1 => ?_) (fun c1 => ?_)
  rotate_left
  · exfalso; omega
  refine r_aload_n (x := some 731) (pc2 := 13) d_Re_readOperand_12 rfl rfl ?_
  refine r_dup (pc2 := 14) d_Re_readOperand_13 rfl rfl ?_
  refine q_getI (x := nI ob) (pc2 := 17) d_Re_readOperand_14 rfl k_Re_55 (by decide) (sh_731 hS) hr.1.2.2.2.2.2.1 ?_
  refine r_iload_n (pc2 := 18) d_Re_readOperand_17 rfl rfl ?_
  refine r_bipush (v := nI 40) (pc2 := 20) d_Re_readOperand_18 rfl (by decide) ?_
  refine q_icmp_ne (tgt := 27) (A := (33 : Int)) (B := (40 : Int)) (pc2 := 23) d_Re_readOperand_20 rfl rfl (nI_toInt (by omega)) (nI_toInt (by omega)) (fun c2 => ?_) (fun c2 => ?_)
  rotate_left
  · exfalso; omega
  refine r_iconst (v := nI 0) (pc2 := 28) d_Re_readOperand_27 rfl (by decide) ?_
  refine q_iaddN (pc2 := 29) d_Re_readOperand_28 rfl ?_
  refine q_putI (pc2 := 32) d_Re_readOperand_29 rfl k_Re_55 (Or.inl rfl) (sh_731 hS) (Or.inl rfl) (fun I3 hI3 => ?_)
  have hr4 := hr.op (q := ob) hI3
  refine r_aload_n (x := some 731) (pc2 := 33) d_Re_readOperand_32 rfl rfl ?_
  refine r_dup (pc2 := 34) d_Re_readOperand_33 rfl rfl ?_
  refine q_getI (x := nI p) (pc2 := 37) d_Re_readOperand_34 rfl k_Re_19 (by decide) (sh_731 hS) hr4.1.2.1 ?_
  refine r_iconst (v := nI 1) (pc2 := 38) d_Re_readOperand_37 rfl (by decide) ?_
  refine q_iaddN (pc2 := 39) d_Re_readOperand_38 rfl ?_
  refine q_putI (pc2 := 42) d_Re_readOperand_39 rfl k_Re_19 (Or.inl rfl) (sh_731 hS) (Or.inl rfl) (fun I5 hI5 => ?_)
  have hr6 := hr4.pl (q := p + 1) hI5
  refine r_aload_n (x := some 731) (pc2 := 43) d_Re_readOperand_42 rfl rfl ?_
  refine r_iload_n (pc2 := 44) d_Re_readOperand_43 rfl rfl ?_
  refine r_callv (M2 := mi_Re_addWaiting) (pc2 := 47) d_Re_readOperand_44 rfl k_Re_94 cm_Re_addWaiting cv_Re_addWaiting (sh_731 hS) (by decide) rfl rfl rfl (Nat.le_of_ble_eq_true rfl) (c_Re_addWaiting hS hR hT0 hr6 hn (by omega) (s := 33) (by omega)) (d2 := d - 1) (by omega) (Nat.le_of_eq (Nat.zero_add _)) (Nat.le_of_eq (Nat.zero_add _)) (fun r2 h2 hq2 => ?_)
  obtain ⟨rfl, K7, rfl, hfK7, hrK7⟩ := hq2
  refine Run.ret (some (.int (nI 1))) d_Re_readOperand_47 ⟨_, rfl, by decide⟩ ?_
  exact ⟨rfl, _, rfl, (((FrV.rf.p hI3 (by decide)).p hI5 (by decide)).t hfK7), hrK7⟩
theorem c_Re_readOperand_40 {d : Nat} {J : Nat → Nat → Int32} {R : Nat → Nat → Option Nat} {L : Nat → Nat → Int64} {sh : Nat → Nat × Nat} {N : Nat} (hS : ShOK sh) (hR : RfOK R) (hT0 : R 731 0 = some 730) {T : Nat → Int32} {n p : Nat} {ob : Nat} {ns : List Nd} {W Lo : List Nat} (hr : RS T n p true ob ns W Lo J) (hn : n ≤ 250) (hp : p < n) (h1 : W.length < 250) (hob : ob ≤ 250) (hd : 4 ≤ d) : Mt mi_Re_readOperand d 0 0 [.ref 731, .int (nI 40)] (J, R, L, sh, N) (fun x h2 => x = some (.int (nI 1)) ∧ ∃ K, h2 = (K, R, L, sh, N) ∧ FrV J K ∧ RS T n (p + 1) true (ob + 1) ns (40 :: W) Lo K) := by
  refine Mt.of pn_Re (Nat.le_of_ble_eq_true rfl) ?_
  show Run mi_Re_readOperand d 0 0 0 [(0, .ref 731), (1, .int (nI 40))] [] (J, R, L, sh, N) _
  refine r_iload_n (pc2 := 1) d_Re_readOperand_0 rfl rfl ?_
  refine r_bipush (v := nI 33) (pc2 := 3) d_Re_readOperand_1 rfl (by decide) ?_
  refine q_icmp_eq (tgt := 12) (A := (40 : Int)) (B := (33 : Int)) (pc2 := 6) d_Re_readOperand_3 rfl rfl (nI_toInt (by omega)) (nI_toInt (by omega)) (fun c1 => ?_) (fun c1 => ?_)
  · exfalso; omega
  refine r_iload_n (pc2 := 7) d_Re_readOperand_6 rfl rfl ?_
  refine r_bipush (v := nI 40) (pc2 := 9) d_Re_readOperand_7 rfl (by decide) ?_
  refine q_icmp_ne (tgt := 48) (A := (40 : Int)) (B := (40 : Int)) (pc2 := 12) d_Re_readOperand_9 rfl rfl (nI_toInt (by omega)) (nI_toInt (by omega)) (fun c2 => ?_) (fun c2 => ?_)
  · exfalso; omega
  refine r_aload_n (x := some 731) (pc2 := 13) d_Re_readOperand_12 rfl rfl ?_
  refine r_dup (pc2 := 14) d_Re_readOperand_13 rfl rfl ?_
  refine q_getI (x := nI ob) (pc2 := 17) d_Re_readOperand_14 rfl k_Re_55 (by decide) (sh_731 hS) hr.1.2.2.2.2.2.1 ?_
  refine r_iload_n (pc2 := 18) d_Re_readOperand_17 rfl rfl ?_
  refine r_bipush (v := nI 40) (pc2 := 20) d_Re_readOperand_18 rfl (by decide) ?_
  refine q_icmp_ne (tgt := 27) (A := (40 : Int)) (B := (40 : Int)) (pc2 := 23) d_Re_readOperand_20 rfl rfl (nI_toInt (by omega)) (nI_toInt (by omega)) (fun c3 => ?_) (fun c3 => ?_)
  · exfalso; omega
  refine r_iconst (v := nI 1) (pc2 := 24) d_Re_readOperand_23 rfl (by decide) ?_
  refine r_goto (tgt := 28) d_Re_readOperand_24 rfl ?_
  refine q_iaddN (pc2 := 29) d_Re_readOperand_28 rfl ?_
  refine q_putI (pc2 := 32) d_Re_readOperand_29 rfl k_Re_55 (Or.inl rfl) (sh_731 hS) (Or.inl rfl) (fun I4 hI4 => ?_)
  have hr5 := hr.op (q := ob + 1) hI4
  refine r_aload_n (x := some 731) (pc2 := 33) d_Re_readOperand_32 rfl rfl ?_
  refine r_dup (pc2 := 34) d_Re_readOperand_33 rfl rfl ?_
  refine q_getI (x := nI p) (pc2 := 37) d_Re_readOperand_34 rfl k_Re_19 (by decide) (sh_731 hS) hr5.1.2.1 ?_
  refine r_iconst (v := nI 1) (pc2 := 38) d_Re_readOperand_37 rfl (by decide) ?_
  refine q_iaddN (pc2 := 39) d_Re_readOperand_38 rfl ?_
  refine q_putI (pc2 := 42) d_Re_readOperand_39 rfl k_Re_19 (Or.inl rfl) (sh_731 hS) (Or.inl rfl) (fun I6 hI6 => ?_)
  have hr7 := hr5.pl (q := p + 1) hI6
  refine r_aload_n (x := some 731) (pc2 := 43) d_Re_readOperand_42 rfl rfl ?_
  refine r_iload_n (pc2 := 44) d_Re_readOperand_43 rfl rfl ?_
  refine r_callv (M2 := mi_Re_addWaiting) (pc2 := 47) d_Re_readOperand_44 rfl k_Re_94 cm_Re_addWaiting cv_Re_addWaiting (sh_731 hS) (by decide) rfl rfl rfl (Nat.le_of_ble_eq_true rfl) (c_Re_addWaiting hS hR hT0 hr7 hn (by omega) (s := 40) (by omega)) (d2 := d - 1) (by omega) (Nat.le_of_eq (Nat.zero_add _)) (Nat.le_of_eq (Nat.zero_add _)) (fun r2 h2 hq2 => ?_)
  obtain ⟨rfl, K8, rfl, hfK8, hrK8⟩ := hq2
  refine Run.ret (some (.int (nI 1))) d_Re_readOperand_47 ⟨_, rfl, by decide⟩ ?_
  exact ⟨rfl, _, rfl, (((FrV.rf.p hI4 (by decide)).p hI6 (by decide)).t hfK8), hrK8⟩
theorem c_Re_readOperand_o {d : Nat} {J : Nat → Nat → Int32} {R : Nat → Nat → Option Nat} {L : Nat → Nat → Int64} {sh : Nat → Nat × Nat} {N : Nat} (hS : ShOK sh) (hR : RfOK R) (hT0 : R 731 0 = some 730) {T : Nat → Int32} {n p : Nat} {ob : Nat} {ns : List Nd} {W Lo : List Nat} (hr : RS T n p true ob ns W Lo J) (hn : n ≤ 250) (hp : p < n) {l : Int32} (hl : l.toInt = byt T n p) (g1 : byt T n p ≠ 33) (g2 : byt T n p ≠ 40) (h1 : ns.length < 250) (h2 : Lo.length < 250) (hd : 4 ≤ d) : Mt mi_Re_readOperand d 0 0 [.ref 731, .int l] (J, R, L, sh, N) (fun x h2 => ∃ K, h2 = (K, R, L, sh, N) ∧ FrV J K ∧ OpP T n ob ns W Lo (opd T n p) x K) := by
  refine Mt.of pn_Re (Nat.le_of_ble_eq_true rfl) ?_
  show Run mi_Re_readOperand d 0 0 0 [(0, .ref 731), (1, .int l)] [] (J, R, L, sh, N) _
  refine r_iload_n (pc2 := 1) d_Re_readOperand_0 rfl rfl ?_
  refine r_bipush (v := nI 33) (pc2 := 3) d_Re_readOperand_1 rfl (by decide) ?_
  refine q_icmp_eq (tgt := 12) (A := byt T n p) (B := (33 : Int)) (pc2 := 6) d_Re_readOperand_3 rfl rfl (hl) (nI_toInt (by omega)) (fun c1 => ?_) (fun c1 => ?_)
  · exfalso; omega
  · refine r_iload_n (pc2 := 7) d_Re_readOperand_6 rfl rfl ?_
    refine r_bipush (v := nI 40) (pc2 := 9) d_Re_readOperand_7 rfl (by decide) ?_
    refine q_icmp_ne (tgt := 48) (A := byt T n p) (B := (40 : Int)) (pc2 := 12) d_Re_readOperand_9 rfl rfl (hl) (nI_toInt (by omega)) (fun c2 => ?_) (fun c2 => ?_)
    · refine r_iload_n (pc2 := 49) d_Re_readOperand_48 rfl rfl ?_
      refine r_bipush (v := nI 42) (pc2 := 51) d_Re_readOperand_49 rfl (by decide) ?_
      refine q_icmp_ne (tgt := 73) (A := byt T n p) (B := (42 : Int)) (pc2 := 54) d_Re_readOperand_51 rfl rfl (hl) (nI_toInt (by omega)) (fun c3 => ?_) (fun c3 => ?_)
      · refine r_iload_n (pc2 := 74) d_Re_readOperand_73 rfl rfl ?_
        refine r_bipush (v := nI 97) (pc2 := 76) d_Re_readOperand_74 rfl (by decide) ?_
        refine q_icmp_lt (tgt := 94) (A := byt T n p) (B := (97 : Int)) (pc2 := 79) d_Re_readOperand_76 rfl rfl (hl) (nI_toInt (by omega)) (fun c4 => ?_) (fun c4 => ?_)
        · refine r_iload_n (pc2 := 95) d_Re_readOperand_94 rfl rfl ?_
          refine r_bipush (v := nI 35) (pc2 := 97) d_Re_readOperand_95 rfl (by decide) ?_
          refine q_icmp_ne (tgt := 111) (A := byt T n p) (B := (35 : Int)) (pc2 := 100) d_Re_readOperand_97 rfl rfl (hl) (nI_toInt (by omega)) (fun c5 => ?_) (fun c5 => ?_)
          · refine r_iconst (v := nI 0) (pc2 := 112) d_Re_readOperand_111 rfl (by decide) ?_
            refine Run.ret (some (.int (nI 0))) d_Re_readOperand_112 ⟨_, rfl, by decide⟩ ?_
            exact ⟨_, rfl, FrV.rf, by rw [show opd T n p = .inl p from by unfold opd; rw [if_neg (by omega), if_neg (by omega), if_neg (by omega)]]; exact ⟨rfl, hr⟩⟩
          · refine r_aload_n (x := some 731) (pc2 := 101) d_Re_readOperand_100 rfl rfl ?_
            refine r_callv (M2 := mi_Re_readKeys) (pc2 := 104) d_Re_readOperand_101 rfl k_Re_104 cm_Re_readKeys cv_Re_readKeys (sh_731 hS) (by decide) rfl rfl rfl (Nat.le_of_ble_eq_true rfl) (c_Re_readKeys hS hR hT0 hr hn (by omega) (by omega) (by omega) (by omega) (by omega)) (d2 := d - 1) (by omega) (Nat.le_of_eq (Nat.zero_add _)) (Nat.le_of_eq (Nat.zero_add _)) (fun r2 h2 hq2 => ?_)
            obtain ⟨K6, rfl, hfK6, hmK6⟩ := hq2
            cases hoK6 : opd T n p with
            | inl qK6 =>
              rw [hoK6] at hmK6
              obtain ⟨rfl, hrK6⟩ := hmK6
              refine q_if_eq (tgt := 111) (A := (0 : Int)) (pc2 := 107) d_Re_readOperand_104 rfl rfl (nI_toInt (by omega)) (fun c7 => ?_) (fun c7 => ?_)
              rotate_left
              · exfalso; omega
              refine r_iconst (v := nI 0) (pc2 := 112) d_Re_readOperand_111 rfl (by decide) ?_
              refine Run.ret (some (.int (nI 0))) d_Re_readOperand_112 ⟨_, rfl, by decide⟩ ?_
              exact ⟨_, rfl, (FrV.rf.t hfK6), by skip; exact ⟨rfl, hrK6⟩⟩
            | inr rK6 =>
              obtain ⟨qK6, xK6⟩ := rK6
              rw [hoK6] at hmK6
              obtain ⟨rfl, hrK6⟩ := hmK6
              have hopK6 := (opd_ok (T := T) (n := n) (p := p) (by omega)).2 qK6 xK6 hoK6
              refine q_if_eq (tgt := 111) (A := (1 : Int)) (pc2 := 107) d_Re_readOperand_104 rfl rfl (nI_toInt (by omega)) (fun c8 => ?_) (fun c8 => ?_)
              · exfalso; omega
              refine r_iconst (v := nI 1) (pc2 := 108) d_Re_readOperand_107 rfl (by decide) ?_
              refine r_goto (tgt := 112) d_Re_readOperand_108 rfl ?_
              refine Run.ret (some (.int (nI 1))) d_Re_readOperand_112 ⟨_, rfl, by decide⟩ ?_
              exact ⟨_, rfl, (FrV.rf.t hfK6), by skip; exact ⟨rfl, hrK6⟩⟩
        · refine r_iload_n (pc2 := 80) d_Re_readOperand_79 rfl rfl ?_
          refine r_bipush (v := nI 100) (pc2 := 82) d_Re_readOperand_80 rfl (by decide) ?_
          refine q_icmp_gt (tgt := 94) (A := byt T n p) (B := (100 : Int)) (pc2 := 85) d_Re_readOperand_82 rfl rfl (hl) (nI_toInt (by omega)) (fun c9 => ?_) (fun c9 => ?_)
          · refine r_iload_n (pc2 := 95) d_Re_readOperand_94 rfl rfl ?_
            refine r_bipush (v := nI 35) (pc2 := 97) d_Re_readOperand_95 rfl (by decide) ?_
            refine q_icmp_ne (tgt := 111) (A := byt T n p) (B := (35 : Int)) (pc2 := 100) d_Re_readOperand_97 rfl rfl (hl) (nI_toInt (by omega)) (fun c10 => ?_) (fun c10 => ?_)
            · refine r_iconst (v := nI 0) (pc2 := 112) d_Re_readOperand_111 rfl (by decide) ?_
              refine Run.ret (some (.int (nI 0))) d_Re_readOperand_112 ⟨_, rfl, by decide⟩ ?_
              exact ⟨_, rfl, FrV.rf, by rw [show opd T n p = .inl p from by unfold opd; rw [if_neg (by omega), if_neg (by omega), if_neg (by omega)]]; exact ⟨rfl, hr⟩⟩
            · refine r_aload_n (x := some 731) (pc2 := 101) d_Re_readOperand_100 rfl rfl ?_
              refine r_callv (M2 := mi_Re_readKeys) (pc2 := 104) d_Re_readOperand_101 rfl k_Re_104 cm_Re_readKeys cv_Re_readKeys (sh_731 hS) (by decide) rfl rfl rfl (Nat.le_of_ble_eq_true rfl) (c_Re_readKeys hS hR hT0 hr hn (by omega) (by omega) (by omega) (by omega) (by omega)) (d2 := d - 1) (by omega) (Nat.le_of_eq (Nat.zero_add _)) (Nat.le_of_eq (Nat.zero_add _)) (fun r2 h2 hq2 => ?_)
              obtain ⟨K11, rfl, hfK11, hmK11⟩ := hq2
              cases hoK11 : opd T n p with
              | inl qK11 =>
                rw [hoK11] at hmK11
                obtain ⟨rfl, hrK11⟩ := hmK11
                refine q_if_eq (tgt := 111) (A := (0 : Int)) (pc2 := 107) d_Re_readOperand_104 rfl rfl (nI_toInt (by omega)) (fun c12 => ?_) (fun c12 => ?_)
                rotate_left
                · exfalso; omega
                refine r_iconst (v := nI 0) (pc2 := 112) d_Re_readOperand_111 rfl (by decide) ?_
                refine Run.ret (some (.int (nI 0))) d_Re_readOperand_112 ⟨_, rfl, by decide⟩ ?_
                exact ⟨_, rfl, (FrV.rf.t hfK11), by skip; exact ⟨rfl, hrK11⟩⟩
              | inr rK11 =>
                obtain ⟨qK11, xK11⟩ := rK11
                rw [hoK11] at hmK11
                obtain ⟨rfl, hrK11⟩ := hmK11
                have hopK11 := (opd_ok (T := T) (n := n) (p := p) (by omega)).2 qK11 xK11 hoK11
                refine q_if_eq (tgt := 111) (A := (1 : Int)) (pc2 := 107) d_Re_readOperand_104 rfl rfl (nI_toInt (by omega)) (fun c13 => ?_) (fun c13 => ?_)
                · exfalso; omega
                refine r_iconst (v := nI 1) (pc2 := 108) d_Re_readOperand_107 rfl (by decide) ?_
                refine r_goto (tgt := 112) d_Re_readOperand_108 rfl ?_
                refine Run.ret (some (.int (nI 1))) d_Re_readOperand_112 ⟨_, rfl, by decide⟩ ?_
                exact ⟨_, rfl, (FrV.rf.t hfK11), by skip; exact ⟨rfl, hrK11⟩⟩
          · refine r_aload_n (x := some 731) (pc2 := 86) d_Re_readOperand_85 rfl rfl ?_
            refine r_iload_n (pc2 := 87) d_Re_readOperand_86 rfl rfl ?_
            refine r_bipush (v := nI 97) (pc2 := 89) d_Re_readOperand_87 rfl (by decide) ?_
            refine q_isubV (pc2 := 90) d_Re_readOperand_89 rfl (A := byt T n p) (B := (97 : Int)) (hl) (nI_toInt (by omega)) (by constructor <;> omega) (fun y14 ey14 hy14 => ?_)
            refine q_top (y := nI ((byt T n p).toNat - 97)) (eq_nI (by rw [hy14]; omega)) ?_
            refine r_callv (M2 := mi_Re_readTest) (pc2 := 93) d_Re_readOperand_90 rfl k_Re_101 cm_Re_readTest cv_Re_readTest (sh_731 hS) (by decide) rfl rfl rfl (Nat.le_of_ble_eq_true rfl) (c_Re_readTest hS hR hT0 hr hn (by omega) (by exact ⟨by omega, by omega⟩) (by omega) (by omega) (by omega)) (d2 := d - 1) (by omega) (Nat.le_of_eq (Nat.zero_add _)) (Nat.le_of_eq (Nat.zero_add _)) (fun r2 h2 hq2 => ?_)
            obtain ⟨K15, rfl, hfK15, hmK15⟩ := hq2
            cases hoK15 : opd T n p with
            | inl qK15 =>
              rw [hoK15] at hmK15
              obtain ⟨rfl, hrK15⟩ := hmK15
              refine Run.ret (some (.int (nI 0))) d_Re_readOperand_93 ⟨_, rfl, by decide⟩ ?_
              exact ⟨_, rfl, (FrV.rf.t hfK15), by skip; exact ⟨rfl, hrK15⟩⟩
            | inr rK15 =>
              obtain ⟨qK15, xK15⟩ := rK15
              rw [hoK15] at hmK15
              obtain ⟨rfl, hrK15⟩ := hmK15
              have hopK15 := (opd_ok (T := T) (n := n) (p := p) (by omega)).2 qK15 xK15 hoK15
              refine Run.ret (some (.int (nI 1))) d_Re_readOperand_93 ⟨_, rfl, by decide⟩ ?_
              exact ⟨_, rfl, (FrV.rf.t hfK15), by skip; exact ⟨rfl, hrK15⟩⟩
      · refine r_aload_n (x := some 731) (pc2 := 55) d_Re_readOperand_54 rfl rfl ?_
        refine r_dup (pc2 := 56) d_Re_readOperand_55 rfl rfl ?_
        refine q_getI (x := nI p) (pc2 := 59) d_Re_readOperand_56 rfl k_Re_19 (by decide) (sh_731 hS) hr.1.2.1 ?_
        refine r_iconst (v := nI 1) (pc2 := 60) d_Re_readOperand_59 rfl (by decide) ?_
        refine q_iaddN (pc2 := 61) d_Re_readOperand_60 rfl ?_
        refine q_putI (pc2 := 64) d_Re_readOperand_61 rfl k_Re_19 (Or.inl rfl) (sh_731 hS) (Or.inl rfl) (fun I16 hI16 => ?_)
        have hr17 := hr.pl (q := p + 1) hI16
        refine r_aload_n (x := some 731) (pc2 := 65) d_Re_readOperand_64 rfl rfl ?_
        refine r_iconst (v := nI 4) (pc2 := 66) d_Re_readOperand_65 rfl (by decide) ?_
        refine r_iconst (v := nI 0) (pc2 := 67) d_Re_readOperand_66 rfl (by decide) ?_
        refine r_iconst (v := nI 0) (pc2 := 68) d_Re_readOperand_67 rfl (by decide) ?_
        refine r_iconst (v := nI 0) (pc2 := 69) d_Re_readOperand_68 rfl (by decide) ?_
        refine r_callv (M2 := mi_Re_addOperand) (pc2 := 72) d_Re_readOperand_69 rfl k_Re_97 cm_Re_addOperand cv_Re_addOperand (sh_731 hS) (by decide) rfl rfl rfl (Nat.le_of_ble_eq_true rfl) (c_Re_addOperand hS hR hT0 hr17 hn (by omega) (k := 4) (a := 0) (b := 0) (s := 0) (by omega) (by omega) (by omega)) (d2 := d - 1) (by omega) (Nat.le_of_eq (Nat.zero_add _)) (Nat.le_of_eq (Nat.zero_add _)) (fun r2 h2 hq2 => ?_)
        obtain ⟨rfl, K18, rfl, hfK18, hrK18⟩ := hq2
        refine Run.ret (some (.int (nI 1))) d_Re_readOperand_72 ⟨_, rfl, by decide⟩ ?_
        exact ⟨_, rfl, ((FrV.rf.p hI16 (by decide)).t hfK18), by rw [show opd T n p = .inr (p + 1, (4, 0, 0, 0)) from by unfold opd; rw [if_pos (by omega)]]; exact ⟨rfl, hrK18⟩⟩
    · exfalso; omega
theorem c_Re_readOperator_38 {d : Nat} {J : Nat → Nat → Int32} {R : Nat → Nat → Option Nat} {L : Nat → Nat → Int64} {sh : Nat → Nat × Nat} {N : Nat} (hS : ShOK sh) (hR : RfOK R) (hT0 : R 731 0 = some 730) {T : Nat → Int32} {n p : Nat} {ns : List Nd} {W Lo : List Nat} (hr : RS T n p false (opn W) ns W Lo J) (hn : n ≤ 250) (hp : p < n) (hw1 : okW W) (hw2 : W.headD 0 ≠ 33) (hw3 : Lo.length = bns W + 1) (hw4 : ns.length + nob W ≤ p) (hw5 : 1 ≤ ns.length) (hw6 : W.length ≤ p) (hd : 4 ≤ d) : Mt mi_Re_readOperator d 0 0 [.ref 731, .int (nI 38)] (J, R, L, sh, N) (fun x h2 => x = some (.int (nI 1)) ∧ ∃ K, h2 = (K, R, L, sh, N) ∧ FrV J K ∧ RS T n (p + 1) true (opn W) ((jn ns W Lo false).1) (38 :: (jn ns W Lo false).2.1) ((jn ns W Lo false).2.2) K) := by
  refine Mt.of pn_Re (Nat.le_of_ble_eq_true rfl) ?_
  show Run mi_Re_readOperator d 0 0 0 [(0, .ref 731), (1, .int (nI 38))] [] (J, R, L, sh, N) _
  refine r_iload_n (pc2 := 1) d_Re_readOperator_0 rfl rfl ?_
  refine r_bipush (v := nI 38) (pc2 := 3) d_Re_readOperator_1 rfl (by decide) ?_
  refine q_icmp_eq (tgt := 12) (A := (38 : Int)) (B := (38 : Int)) (pc2 := 6) d_Re_readOperator_3 rfl rfl (nI_toInt (by omega)) (nI_toInt (by omega)) (fun c1 => ?_) (fun c1 => ?_)
  rotate_left
  · exfalso; omega
  refine r_aload_n (x := some 731) (pc2 := 13) d_Re_readOperator_12 rfl rfl ?_
  refine r_iload_n (pc2 := 14) d_Re_readOperator_13 rfl rfl ?_
  refine r_bipush (v := nI 124) (pc2 := 16) d_Re_readOperator_14 rfl (by decide) ?_
  refine q_icmp_ne (tgt := 23) (A := (38 : Int)) (B := (124 : Int)) (pc2 := 19) d_Re_readOperator_16 rfl rfl (nI_toInt (by omega)) (nI_toInt (by omega)) (fun c2 => ?_) (fun c2 => ?_)
  rotate_left
  · exfalso; omega
  refine r_iconst (v := nI 0) (pc2 := 24) d_Re_readOperator_23 rfl (by decide) ?_
  refine q_top (y := bI (false = true)) bI_ff.symm ?_
  refine r_callv (M2 := mi_Re_joinWaiting) (pc2 := 27) d_Re_readOperator_24 rfl k_Re_81 cm_Re_joinWaiting cv_Re_joinWaiting (sh_731 hS) (by decide) rfl rfl rfl (Nat.le_of_ble_eq_true rfl) (c_Re_joinWaiting hS hR hT0 hr hn (by omega) (e := false) (by omega) hw1 hw3 (by omega) (by omega) hw5) (d2 := d - 1) (by omega) (Nat.le_of_eq (Nat.zero_add _)) (Nat.le_of_eq (Nat.zero_add _)) (fun r2 h2 hq2 => ?_)
  obtain ⟨rfl, K3, rfl, hfK3, hrK3⟩ := hq2
  have hjK3 := jn_ok (e := false) (ns := ns) (W := W) (Lo := Lo) hw1 hw2 hw3
  obtain ⟨rK3, erK3⟩ : ∃ r, r = jn ns W Lo false := ⟨_, rfl⟩
  rw [← erK3] at hrK3 hjK3
  obtain ⟨⟨jk1, jk2, jk3, jk4, jk5, jk6⟩, jk7⟩ := hjK3
  refine r_aload_n (x := some 731) (pc2 := 28) d_Re_readOperator_27 rfl rfl ?_
  refine r_iconst (v := nI 1) (pc2 := 29) d_Re_readOperator_28 rfl (by decide) ?_
  refine q_putI (pc2 := 32) d_Re_readOperator_29 rfl k_Re_58 (Or.inr ⟨rfl, by decide⟩) (sh_731 hS) (Or.inl rfl) (fun I4 hI4 => ?_)
  have hr5 := hrK3.du bI_tt.symm hI4
  refine r_aload_n (x := some 731) (pc2 := 33) d_Re_readOperator_32 rfl rfl ?_
  refine r_dup (pc2 := 34) d_Re_readOperator_33 rfl rfl ?_
  refine q_getI (x := nI p) (pc2 := 37) d_Re_readOperator_34 rfl k_Re_19 (by decide) (sh_731 hS) hr5.1.2.1 ?_
  refine r_iconst (v := nI 1) (pc2 := 38) d_Re_readOperator_37 rfl (by decide) ?_
  refine q_iaddN (pc2 := 39) d_Re_readOperator_38 rfl ?_
  refine q_putI (pc2 := 42) d_Re_readOperator_39 rfl k_Re_19 (Or.inl rfl) (sh_731 hS) (Or.inl rfl) (fun I6 hI6 => ?_)
  have hr7 := hr5.pl (q := p + 1) hI6
  refine r_aload_n (x := some 731) (pc2 := 43) d_Re_readOperator_42 rfl rfl ?_
  refine r_iload_n (pc2 := 44) d_Re_readOperator_43 rfl rfl ?_
  refine r_callv (M2 := mi_Re_addWaiting) (pc2 := 47) d_Re_readOperator_44 rfl k_Re_94 cm_Re_addWaiting cv_Re_addWaiting (sh_731 hS) (by decide) rfl rfl rfl (Nat.le_of_ble_eq_true rfl) (c_Re_addWaiting hS hR hT0 hr7 hn (by omega) (s := 38) (by omega)) (d2 := d - 1) (by omega) (Nat.le_of_eq (Nat.zero_add _)) (Nat.le_of_eq (Nat.zero_add _)) (fun r2 h2 hq2 => ?_)
  obtain ⟨rfl, K8, rfl, hfK8, hrK8⟩ := hq2
  refine Run.ret (some (.int (nI 1))) d_Re_readOperator_47 ⟨_, rfl, by decide⟩ ?_
  rw [erK3] at hrK8
  exact ⟨rfl, _, rfl, ((((FrV.rf.t hfK3).p hI4 (by decide)).p hI6 (by decide)).t hfK8), hrK8⟩
theorem c_Re_readOperator_124 {d : Nat} {J : Nat → Nat → Int32} {R : Nat → Nat → Option Nat} {L : Nat → Nat → Int64} {sh : Nat → Nat × Nat} {N : Nat} (hS : ShOK sh) (hR : RfOK R) (hT0 : R 731 0 = some 730) {T : Nat → Int32} {n p : Nat} {ns : List Nd} {W Lo : List Nat} (hr : RS T n p false (opn W) ns W Lo J) (hn : n ≤ 250) (hp : p < n) (hw1 : okW W) (hw2 : W.headD 0 ≠ 33) (hw3 : Lo.length = bns W + 1) (hw4 : ns.length + nob W ≤ p) (hw5 : 1 ≤ ns.length) (hw6 : W.length ≤ p) (hd : 4 ≤ d) : Mt mi_Re_readOperator d 0 0 [.ref 731, .int (nI 124)] (J, R, L, sh, N) (fun x h2 => x = some (.int (nI 1)) ∧ ∃ K, h2 = (K, R, L, sh, N) ∧ FrV J K ∧ RS T n (p + 1) true (opn W) ((jn ns W Lo true).1) (124 :: (jn ns W Lo true).2.1) ((jn ns W Lo true).2.2) K) := by
  refine Mt.of pn_Re (Nat.le_of_ble_eq_true rfl) ?_
  show Run mi_Re_readOperator d 0 0 0 [(0, .ref 731), (1, .int (nI 124))] [] (J, R, L, sh, N) _
  refine r_iload_n (pc2 := 1) d_Re_readOperator_0 rfl rfl ?_
  refine r_bipush (v := nI 38) (pc2 := 3) d_Re_readOperator_1 rfl (by decide) ?_
  refine q_icmp_eq (tgt := 12) (A := (124 : Int)) (B := (38 : Int)) (pc2 := 6) d_Re_readOperator_3 rfl rfl (nI_toInt (by omega)) (nI_toInt (by omega)) (fun c1 => ?_) (fun c1 => ?_)
  · exfalso; omega
  refine r_iload_n (pc2 := 7) d_Re_readOperator_6 rfl rfl ?_
  refine r_bipush (v := nI 124) (pc2 := 9) d_Re_readOperator_7 rfl (by decide) ?_
  refine q_icmp_ne (tgt := 48) (A := (124 : Int)) (B := (124 : Int)) (pc2 := 12) d_Re_readOperator_9 rfl rfl (nI_toInt (by omega)) (nI_toInt (by omega)) (fun c2 => ?_) (fun c2 => ?_)
  · exfalso; omega
  refine r_aload_n (x := some 731) (pc2 := 13) d_Re_readOperator_12 rfl rfl ?_
  refine r_iload_n (pc2 := 14) d_Re_readOperator_13 rfl rfl ?_
  refine r_bipush (v := nI 124) (pc2 := 16) d_Re_readOperator_14 rfl (by decide) ?_
  refine q_icmp_ne (tgt := 23) (A := (124 : Int)) (B := (124 : Int)) (pc2 := 19) d_Re_readOperator_16 rfl rfl (nI_toInt (by omega)) (nI_toInt (by omega)) (fun c3 => ?_) (fun c3 => ?_)
  · exfalso; omega
  refine r_iconst (v := nI 1) (pc2 := 20) d_Re_readOperator_19 rfl (by decide) ?_
  refine r_goto (tgt := 24) d_Re_readOperator_20 rfl ?_
  refine q_top (y := bI (true = true)) bI_tt.symm ?_
  refine r_callv (M2 := mi_Re_joinWaiting) (pc2 := 27) d_Re_readOperator_24 rfl k_Re_81 cm_Re_joinWaiting cv_Re_joinWaiting (sh_731 hS) (by decide) rfl rfl rfl (Nat.le_of_ble_eq_true rfl) (c_Re_joinWaiting hS hR hT0 hr hn (by omega) (e := true) (by omega) hw1 hw3 (by omega) (by omega) hw5) (d2 := d - 1) (by omega) (Nat.le_of_eq (Nat.zero_add _)) (Nat.le_of_eq (Nat.zero_add _)) (fun r2 h2 hq2 => ?_)
  obtain ⟨rfl, K4, rfl, hfK4, hrK4⟩ := hq2
  have hjK4 := jn_ok (e := true) (ns := ns) (W := W) (Lo := Lo) hw1 hw2 hw3
  obtain ⟨rK4, erK4⟩ : ∃ r, r = jn ns W Lo true := ⟨_, rfl⟩
  rw [← erK4] at hrK4 hjK4
  obtain ⟨⟨jk1, jk2, jk3, jk4, jk5, jk6⟩, jk7⟩ := hjK4
  refine r_aload_n (x := some 731) (pc2 := 28) d_Re_readOperator_27 rfl rfl ?_
  refine r_iconst (v := nI 1) (pc2 := 29) d_Re_readOperator_28 rfl (by decide) ?_
  refine q_putI (pc2 := 32) d_Re_readOperator_29 rfl k_Re_58 (Or.inr ⟨rfl, by decide⟩) (sh_731 hS) (Or.inl rfl) (fun I5 hI5 => ?_)
  have hr6 := hrK4.du bI_tt.symm hI5
  refine r_aload_n (x := some 731) (pc2 := 33) d_Re_readOperator_32 rfl rfl ?_
  refine r_dup (pc2 := 34) d_Re_readOperator_33 rfl rfl ?_
  refine q_getI (x := nI p) (pc2 := 37) d_Re_readOperator_34 rfl k_Re_19 (by decide) (sh_731 hS) hr6.1.2.1 ?_
  refine r_iconst (v := nI 1) (pc2 := 38) d_Re_readOperator_37 rfl (by decide) ?_
  refine q_iaddN (pc2 := 39) d_Re_readOperator_38 rfl ?_
  refine q_putI (pc2 := 42) d_Re_readOperator_39 rfl k_Re_19 (Or.inl rfl) (sh_731 hS) (Or.inl rfl) (fun I7 hI7 => ?_)
  have hr8 := hr6.pl (q := p + 1) hI7
  refine r_aload_n (x := some 731) (pc2 := 43) d_Re_readOperator_42 rfl rfl ?_
  refine r_iload_n (pc2 := 44) d_Re_readOperator_43 rfl rfl ?_
  refine r_callv (M2 := mi_Re_addWaiting) (pc2 := 47) d_Re_readOperator_44 rfl k_Re_94 cm_Re_addWaiting cv_Re_addWaiting (sh_731 hS) (by decide) rfl rfl rfl (Nat.le_of_ble_eq_true rfl) (c_Re_addWaiting hS hR hT0 hr8 hn (by omega) (s := 124) (by omega)) (d2 := d - 1) (by omega) (Nat.le_of_eq (Nat.zero_add _)) (Nat.le_of_eq (Nat.zero_add _)) (fun r2 h2 hq2 => ?_)
  obtain ⟨rfl, K9, rfl, hfK9, hrK9⟩ := hq2
  refine Run.ret (some (.int (nI 1))) d_Re_readOperator_47 ⟨_, rfl, by decide⟩ ?_
  rw [erK4] at hrK9
  exact ⟨rfl, _, rfl, ((((FrV.rf.t hfK4).p hI5 (by decide)).p hI7 (by decide)).t hfK9), hrK9⟩
theorem c_Re_readOperator_41 {d : Nat} {J : Nat → Nat → Int32} {R : Nat → Nat → Option Nat} {L : Nat → Nat → Int64} {sh : Nat → Nat × Nat} {N : Nat} (hS : ShOK sh) (hR : RfOK R) (hT0 : R 731 0 = some 730) {T : Nat → Int32} {n p : Nat} {ns : List Nd} {W Lo : List Nat} (hr : RS T n p false (opn W) ns W Lo J) (hn : n ≤ 250) (hp : p < n) (hw1 : okW W) (hw2 : W.headD 0 ≠ 33) (hw3 : Lo.length = bns W + 1) (hw4 : ns.length + nob W ≤ p) (hw5 : 1 ≤ ns.length) (hw6 : W.length ≤ p) (hob : opn W ≠ 0) (hd : 4 ≤ d) : Mt mi_Re_readOperator d 0 0 [.ref 731, .int (nI 41)] (J, R, L, sh, N) (fun x h2 => x = some (.int (nI 1)) ∧ ∃ K, h2 = (K, R, L, sh, N) ∧ FrV J K ∧ RS T n (p + 1) false (opn W - 1) ((jn ns W Lo true).1) ((jn ns W Lo true).2.1.tail) ((jn ns W Lo true).2.2) K) := by
  have hol := opn_l (W := W)
  refine Mt.of pn_Re (Nat.le_of_ble_eq_true rfl) ?_
  show Run mi_Re_readOperator d 0 0 0 [(0, .ref 731), (1, .int (nI 41))] [] (J, R, L, sh, N) _
  refine r_iload_n (pc2 := 1) d_Re_readOperator_0 rfl rfl ?_
  refine r_bipush (v := nI 38) (pc2 := 3) d_Re_readOperator_1 rfl (by decide) ?_
  refine q_icmp_eq (tgt := 12) (A := (41 : Int)) (B := (38 : Int)) (pc2 := 6) d_Re_readOperator_3 rfl rfl (nI_toInt (by omega)) (nI_toInt (by omega)) (fun c1 => ?_) (fun c1 => ?_)
  · exfalso; omega
  refine r_iload_n (pc2 := 7) d_Re_readOperator_6 rfl rfl ?_
  refine r_bipush (v := nI 124) (pc2 := 9) d_Re_readOperator_7 rfl (by decide) ?_
  refine q_icmp_ne (tgt := 48) (A := (41 : Int)) (B := (124 : Int)) (pc2 := 12) d_Re_readOperator_9 rfl rfl (nI_toInt (by omega)) (nI_toInt (by omega)) (fun c2 => ?_) (fun c2 => ?_)
  rotate_left
  · exfalso; omega
  refine r_iload_n (pc2 := 49) d_Re_readOperator_48 rfl rfl ?_
  refine r_bipush (v := nI 41) (pc2 := 51) d_Re_readOperator_49 rfl (by decide) ?_
  refine q_icmp_ne (tgt := 61) (A := (41 : Int)) (B := (41 : Int)) (pc2 := 54) d_Re_readOperator_51 rfl rfl (nI_toInt (by omega)) (nI_toInt (by omega)) (fun c3 => ?_) (fun c3 => ?_)
  · exfalso; omega
  refine r_aload_n (x := some 731) (pc2 := 55) d_Re_readOperator_54 rfl rfl ?_
  refine q_getI (x := nI (opn W)) (pc2 := 58) d_Re_readOperator_55 rfl k_Re_55 (by decide) (sh_731 hS) hr.1.2.2.2.2.2.1 ?_
  refine q_if_ne (tgt := 63) (A := ((opn W : Nat) : Int)) (pc2 := 61) d_Re_readOperator_58 rfl rfl (nI_toInt (by omega)) (fun c4 => ?_) (fun c4 => ?_)
  · refine r_aload_n (x := some 731) (pc2 := 64) d_Re_readOperator_63 rfl rfl ?_
    refine r_iconst (v := nI 1) (pc2 := 65) d_Re_readOperator_64 rfl (by decide) ?_
    refine q_top (y := bI (true = true)) bI_tt.symm ?_
    refine r_callv (M2 := mi_Re_joinWaiting) (pc2 := 68) d_Re_readOperator_65 rfl k_Re_81 cm_Re_joinWaiting cv_Re_joinWaiting (sh_731 hS) (by decide) rfl rfl rfl (Nat.le_of_ble_eq_true rfl) (c_Re_joinWaiting hS hR hT0 hr hn (by omega) (e := true) (by omega) hw1 hw3 (by omega) (by omega) hw5) (d2 := d - 1) (by omega) (Nat.le_of_eq (Nat.zero_add _)) (Nat.le_of_eq (Nat.zero_add _)) (fun r2 h2 hq2 => ?_)
    obtain ⟨rfl, K5, rfl, hfK5, hrK5⟩ := hq2
    have hjK5 := jn_ok (e := true) (ns := ns) (W := W) (Lo := Lo) hw1 hw2 hw3
    obtain ⟨rK5, erK5⟩ : ∃ r, r = jn ns W Lo true := ⟨_, rfl⟩
    rw [← erK5] at hrK5 hjK5
    obtain ⟨⟨jk1, jk2, jk3, jk4, jk5, jk6⟩, jk7⟩ := hjK5
    have hol := opn_l (W := W)
    have hol2 := opn_l (W := rK5.2.1)
    rw [jk6] at hol2
    refine r_aload_n (x := some 731) (pc2 := 69) d_Re_readOperator_68 rfl rfl ?_
    refine r_iconst (v := nI 0) (pc2 := 70) d_Re_readOperator_69 rfl (by decide) ?_
    refine r_aload_n (x := some 731) (pc2 := 71) d_Re_readOperator_70 rfl rfl ?_
    refine q_getI (x := nI rK5.2.1.length) (pc2 := 74) d_Re_readOperator_71 rfl k_Re_52 (by decide) (sh_731 hS) hrK5.1.2.2.2.2.1 ?_
    refine r_iconst (v := nI 1) (pc2 := 75) d_Re_readOperator_74 rfl (by decide) ?_
    refine q_isubN (pc2 := 76) d_Re_readOperator_75 rfl (by omega) ?_
    refine q_calls (M2 := mi_JM_max) (pc2 := 79) d_Re_readOperator_76 rfl k_Re_119 cm_JM_max cs_JM_max rfl rfl (Nat.le_of_ble_eq_true rfl) (c_JM_max (A := 0) (B := rK5.2.1.length - 1) (by omega) (by omega)) (d2 := d - 1) (by omega) (Nat.le_of_eq (Nat.zero_add _)) (Nat.le_of_eq (Nat.zero_add _)) ?_
    refine q_putI (pc2 := 82) d_Re_readOperator_79 rfl k_Re_52 (Or.inl rfl) (sh_731 hS) (Or.inl rfl) (fun I6 hI6 => ?_)
    have hr7 := hrK5.wt (by rw [List.length_tail]; try omega) hI6
    refine r_aload_n (x := some 731) (pc2 := 83) d_Re_readOperator_82 rfl rfl ?_
    refine r_dup (pc2 := 84) d_Re_readOperator_83 rfl rfl ?_
    refine q_getI (x := nI (opn W)) (pc2 := 87) d_Re_readOperator_84 rfl k_Re_55 (by decide) (sh_731 hS) hr7.1.2.2.2.2.2.1 ?_
    refine r_iconst (v := nI 1) (pc2 := 88) d_Re_readOperator_87 rfl (by decide) ?_
    refine q_isubN (pc2 := 89) d_Re_readOperator_88 rfl (by omega) ?_
    refine q_putI (pc2 := 92) d_Re_readOperator_89 rfl k_Re_55 (Or.inl rfl) (sh_731 hS) (Or.inl rfl) (fun I8 hI8 => ?_)
    have hr9 := hr7.op (q := opn W - 1) hI8
    refine r_aload_n (x := some 731) (pc2 := 93) d_Re_readOperator_92 rfl rfl ?_
    refine r_dup (pc2 := 94) d_Re_readOperator_93 rfl rfl ?_
    refine q_getI (x := nI p) (pc2 := 97) d_Re_readOperator_94 rfl k_Re_19 (by decide) (sh_731 hS) hr9.1.2.1 ?_
    refine r_iconst (v := nI 1) (pc2 := 98) d_Re_readOperator_97 rfl (by decide) ?_
    refine q_iaddN (pc2 := 99) d_Re_readOperator_98 rfl ?_
    refine q_putI (pc2 := 102) d_Re_readOperator_99 rfl k_Re_19 (Or.inl rfl) (sh_731 hS) (Or.inl rfl) (fun I10 hI10 => ?_)
    have hr11 := hr9.pl (q := p + 1) hI10
    refine r_iconst (v := nI 1) (pc2 := 103) d_Re_readOperator_102 rfl (by decide) ?_
    refine Run.ret (some (.int (nI 1))) d_Re_readOperator_103 ⟨_, rfl, by decide⟩ ?_
    rw [erK5] at hr11
    exact ⟨rfl, _, rfl, ((((FrV.rf.t hfK5).p hI6 (by decide)).p hI8 (by decide)).p hI10 (by decide)), hr11⟩
  · exfalso; omega
theorem c_Re_readOperator_o {d : Nat} {J : Nat → Nat → Int32} {R : Nat → Nat → Option Nat} {L : Nat → Nat → Int64} {sh : Nat → Nat × Nat} {N : Nat} (hS : ShOK sh) (hR : RfOK R) (hT0 : R 731 0 = some 730) {T : Nat → Int32} {n p : Nat} {ns : List Nd} {W Lo : List Nat} (hr : RS T n p false (opn W) ns W Lo J) (hn : n ≤ 250) (hp : p < n) (hw1 : okW W) (hw2 : W.headD 0 ≠ 33) (hw3 : Lo.length = bns W + 1) (hw4 : ns.length + nob W ≤ p) (hw5 : 1 ≤ ns.length) (hw6 : W.length ≤ p) {l : Int32} (hl : l.toInt = byt T n p) (g1 : byt T n p ≠ 38) (g2 : byt T n p ≠ 124) (g3 : ¬ (byt T n p = 41 ∧ opn W ≠ 0)) (hd : 4 ≤ d) : Mt mi_Re_readOperator d 0 0 [.ref 731, .int l] (J, R, L, sh, N) (fun x h2 => x = some (.int (nI 0)) ∧ ∃ K, h2 = (K, R, L, sh, N) ∧ FrV J K ∧ RS T n p false (opn W) ns W Lo K) := by
  have hol := opn_l (W := W)
  refine Mt.of pn_Re (Nat.le_of_ble_eq_true rfl) ?_
  show Run mi_Re_readOperator d 0 0 0 [(0, .ref 731), (1, .int l)] [] (J, R, L, sh, N) _
  refine r_iload_n (pc2 := 1) d_Re_readOperator_0 rfl rfl ?_
  refine r_bipush (v := nI 38) (pc2 := 3) d_Re_readOperator_1 rfl (by decide) ?_
  refine q_icmp_eq (tgt := 12) (A := byt T n p) (B := (38 : Int)) (pc2 := 6) d_Re_readOperator_3 rfl rfl (hl) (nI_toInt (by omega)) (fun c1 => ?_) (fun c1 => ?_)
  · exfalso; omega
  · refine r_iload_n (pc2 := 7) d_Re_readOperator_6 rfl rfl ?_
    refine r_bipush (v := nI 124) (pc2 := 9) d_Re_readOperator_7 rfl (by decide) ?_
    refine q_icmp_ne (tgt := 48) (A := byt T n p) (B := (124 : Int)) (pc2 := 12) d_Re_readOperator_9 rfl rfl (hl) (nI_toInt (by omega)) (fun c2 => ?_) (fun c2 => ?_)
    · refine r_iload_n (pc2 := 49) d_Re_readOperator_48 rfl rfl ?_
      refine r_bipush (v := nI 41) (pc2 := 51) d_Re_readOperator_49 rfl (by decide) ?_
      refine q_icmp_ne (tgt := 61) (A := byt T n p) (B := (41 : Int)) (pc2 := 54) d_Re_readOperator_51 rfl rfl (hl) (nI_toInt (by omega)) (fun c3 => ?_) (fun c3 => ?_)
      · refine r_iconst (v := nI 0) (pc2 := 62) d_Re_readOperator_61 rfl (by decide) ?_
        refine Run.ret (some (.int (nI 0))) d_Re_readOperator_62 ⟨_, rfl, by decide⟩ ?_
        exact ⟨rfl, _, rfl, FrV.rf, hr⟩
      · refine r_aload_n (x := some 731) (pc2 := 55) d_Re_readOperator_54 rfl rfl ?_
        refine q_getI (x := nI (opn W)) (pc2 := 58) d_Re_readOperator_55 rfl k_Re_55 (by decide) (sh_731 hS) hr.1.2.2.2.2.2.1 ?_
        refine q_if_ne (tgt := 63) (A := ((opn W : Nat) : Int)) (pc2 := 61) d_Re_readOperator_58 rfl rfl (nI_toInt (by omega)) (fun c4 => ?_) (fun c4 => ?_)
        · exfalso; omega
        · refine r_iconst (v := nI 0) (pc2 := 62) d_Re_readOperator_61 rfl (by decide) ?_
          refine Run.ret (some (.int (nI 0))) d_Re_readOperator_62 ⟨_, rfl, by decide⟩ ?_
          exact ⟨rfl, _, rfl, FrV.rf, hr⟩
    · exfalso; omega
