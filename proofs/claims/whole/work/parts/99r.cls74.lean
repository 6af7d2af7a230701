/-! THE SPELLER: parts, brackets, lengths of parts -/
theorem CoK.c {c : Nat} {ns : List Nd} {I J : Nat → Nat → Int32} {R : Nat → Nat → Option Nat} {sh : Nat → Nat × Nat} (h : CoK c ns I R sh) (hc : 781 ≤ c) (e : ∀ a j, 781 ≤ a → J a j = I a j) : CoK c ns J R sh :=
  ⟨h.1, h.2.1, fun j hj => by rw [e _ _ (by omega), e _ _ (by omega), e _ _ (by omega), e _ _ (by omega)]; exact h.2.2 j hj⟩
/-- whether a part stands in brackets -/
def b1 (ns : List Nd) (n : Nat) : Bool := if (nd ns n).1 = 3 then k7 ns (nd ns n).2.1 else if (nd ns n).1 = 7 then k8 ns (nd ns n).2.1 else false
def b2 (ns : List Nd) (n : Nat) : Bool := if (nd ns n).1 = 7 then k7 ns (nd ns n).2.2.1 else k8 ns (nd ns n).2.2.1
def plus2 (b : Bool) : Nat := if b = true then 2 else 0
theorem nd_3 {ns : List Nd} {n : Nat} : nd ns n = ((nd ns n).1, (nd ns n).2.1, (nd ns n).2.2.1, (nd ns n).2.2.2) := rfl
theorem k_Co_kindOf {d : Nat} {J : Nat → Nat → Int32} {R : Nat → Nat → Option Nat} {L : Nat → Nat → Int64} {sh : Nat → Nat × Nat} {N : Nat} (hS : ShOK sh) (hR : RfOK R) {c n : Nat} {ns : List Nd} (hC : CoK c ns J R sh) (hv : NV ns) (hl : ns.length < 250) (hn : n < ns.length) : Me mi_Co_kindOf d 0 0 [.ref c, .int (nI n)] (J, R, L, sh, N) (some (.int (nI (nd ns n).1))) (J, R, L, sh, N) := by
  obtain ⟨hv1, hv2, hv3, hv4, hv5⟩ := hv.nd hn
  refine Mt.of pn_Co (Nat.le_of_ble_eq_true rfl) ?_
  show Run mi_Co_kindOf d 0 0 0 [(0, .ref c), (1, .int (nI n))] [] (J, R, L, sh, N) _
  refine r_iload_n (pc2 := 1) d_Co_kindOf_0 rfl rfl ?_
  refine q_if_lt (tgt := 22) (A := ((n : Nat) : Int)) (pc2 := 4) d_Co_kindOf_1 rfl rfl (nI_toInt (by omega)) (fun c1 => ?_) (fun c1 => ?_)
  · exfalso; omega
  refine r_iload_n (pc2 := 5) d_Co_kindOf_4 rfl rfl ?_
  refine r_aload_n (x := some c) (pc2 := 6) d_Co_kindOf_5 rfl rfl ?_
  refine q_getR (x := some (c + 1)) (pc2 := 9) d_Co_kindOf_6 rfl k_Co_15 rfl hC.1.1 hC.2.1.1 ?_
  refine r_alen (pc2 := 10) d_Co_kindOf_9 rfl hC.1.2.1 (by decide) (by decide) ?_
  refine q_icmp_ge (tgt := 22) (A := ((n : Nat) : Int)) (B := ((ns.length : Nat) : Int)) (pc2 := 13) d_Co_kindOf_10 rfl rfl (nI_toInt (by omega)) (nI_toInt (by omega)) (fun c2 => ?_) (fun c2 => ?_)
  · refine r_iconst (v := (-1 : Int32)) (pc2 := 23) d_Co_kindOf_22 rfl (by decide) ?_
    refine Run.ret (some (.int ((-1 : Int32)))) d_Co_kindOf_23 ⟨_, rfl⟩ ?_
    exfalso; omega
  · refine r_aload_n (x := some c) (pc2 := 14) d_Co_kindOf_13 rfl rfl ?_
    refine q_getR (x := some (c + 1)) (pc2 := 17) d_Co_kindOf_14 rfl k_Co_15 rfl hC.1.1 hC.2.1.1 ?_
    refine r_iload_n (pc2 := 18) d_Co_kindOf_17 rfl rfl ?_
    refine q_iaload (q := n) (x := nI ((nd ns n).1)) (pc2 := 19) d_Co_kindOf_18 rfl hC.1.2.1 (nI_toInt (by omega)) (by omega) ((hC.2.2 n (by omega)).1) ?_
    refine r_goto (tgt := 23) d_Co_kindOf_19 rfl ?_
    refine Run.ret (some (.int (nI ((nd ns n).1)))) d_Co_kindOf_23 ⟨_, rfl⟩ ?_
    exact ⟨rfl, rfl⟩
theorem k_Co_partOf_1 {d : Nat} {J : Nat → Nat → Int32} {R : Nat → Nat → Option Nat} {L : Nat → Nat → Int64} {sh : Nat → Nat × Nat} {N : Nat} (hS : ShOK sh) (hR : RfOK R) {c n : Nat} {ns : List Nd} (hC : CoK c ns J R sh) (hv : NV ns) (hl : ns.length < 250) (hn : n < ns.length) (hk : (nd ns n).1 = 3 ∨ 7 ≤ (nd ns n).1) (hd : 1 ≤ d) : Me mi_Co_partOf d 0 0 [.ref c, .int (nI n), .int (nI 1)] (J, R, L, sh, N) (some (.int (nI (nd ns n).2.1))) (J, R, L, sh, N) := by
  obtain ⟨hv1, hv2, hv3, hv4, hv5⟩ := hv.nd hn
  have hx := hv2 hk
  refine Mt.of pn_Co (Nat.le_of_ble_eq_true rfl) ?_
  show Run mi_Co_partOf d 0 0 0 [(0, .ref c), (1, .int (nI n)), (2, .int (nI 1))] [] (J, R, L, sh, N) _
  refine r_aload_n (x := some c) (pc2 := 1) d_Co_partOf_0 rfl rfl ?_
  refine r_iload_n (pc2 := 2) d_Co_partOf_1 rfl rfl ?_
  refine q_callv (M2 := mi_Co_kindOf) (pc2 := 5) d_Co_partOf_2 rfl k_Co_34 cm_Co_kindOf cv_Co_kindOf hC.1.1 (by decide) rfl rfl rfl (Nat.le_of_ble_eq_true rfl) (k_Co_kindOf (J := J) hS hR (n := n) hC hv hl (by omega)) (d2 := d - 1) (by omega) (Nat.le_of_eq (Nat.zero_add _)) (Nat.le_of_eq (Nat.zero_add _)) ?_
  refine r_istore_n (pc2 := 6) d_Co_partOf_5 rfl rfl (Nat.le_of_ble_eq_true rfl) ?_
  refine r_iload_n (pc2 := 7) d_Co_partOf_6 rfl rfl ?_
  refine r_iconst (v := (-1 : Int32)) (pc2 := 8) d_Co_partOf_7 rfl (by decide) ?_
  refine q_icmp_eq (tgt := 15) (A := (((nd ns n).1 : Nat) : Int)) (B := (-1 : Int)) (pc2 := 11) d_Co_partOf_8 rfl rfl (nI_toInt (by omega)) (by decide) (fun c1 => ?_) (fun c1 => ?_)
  · exfalso; omega
  refine r_iload_n (pc2 := 12) d_Co_partOf_11 rfl rfl ?_
  refine q_if_ne (tgt := 26) (A := (1 : Int)) (pc2 := 15) d_Co_partOf_12 rfl rfl (nI_toInt (by omega)) (fun c2 => ?_) (fun c2 => ?_)
  rotate_left
  · exfalso; omega
  refine r_iload_n (pc2 := 27) d_Co_partOf_26 rfl rfl ?_
  refine r_bipush (v := nI 7) (pc2 := 29) d_Co_partOf_27 rfl (by decide) ?_
  refine q_icmp_eq (tgt := 38) (A := (((nd ns n).1 : Nat) : Int)) (B := (7 : Int)) (pc2 := 32) d_Co_partOf_29 rfl rfl (nI_toInt (by omega)) (nI_toInt (by omega)) (fun c3 => ?_) (fun c3 => ?_)
  · refine r_iconst (v := nI 1) (pc2 := 39) d_Co_partOf_38 rfl (by decide) ?_
    refine r_goto (tgt := 43) d_Co_partOf_39 rfl ?_
    refine r_istore (pc2 := 45) d_Co_partOf_43 rfl (Nat.le_of_ble_eq_true rfl) ?_
    refine r_iload_n (pc2 := 46) d_Co_partOf_45 rfl rfl ?_
    refine r_iconst (v := nI 1) (pc2 := 47) d_Co_partOf_46 rfl (by decide) ?_
    refine q_icmp_ne (tgt := 67) (A := (1 : Int)) (B := (1 : Int)) (pc2 := 50) d_Co_partOf_47 rfl rfl (nI_toInt (by omega)) (nI_toInt (by omega)) (fun c4 => ?_) (fun c4 => ?_)
    · exfalso; omega
    refine r_iload (pc2 := 52) d_Co_partOf_50 rfl rfl ?_
    refine q_if_ne (tgt := 60) (A := (1 : Int)) (pc2 := 55) d_Co_partOf_52 rfl rfl (nI_toInt (by omega)) (fun c5 => ?_) (fun c5 => ?_)
    rotate_left
    · exfalso; omega
    refine r_aload_n (x := some c) (pc2 := 61) d_Co_partOf_60 rfl rfl ?_
    refine q_getR (x := some (c + 2)) (pc2 := 64) d_Co_partOf_61 rfl k_Co_21 rfl hC.1.1 hC.2.1.2.1 ?_
    refine r_iload_n (pc2 := 65) d_Co_partOf_64 rfl rfl ?_
    refine q_iaload (q := n) (x := nI ((nd ns n).2.1)) (pc2 := 66) d_Co_partOf_65 rfl hC.1.2.2.1 (nI_toInt (by omega)) (by omega) ((hC.2.2 n (by omega)).2.1) ?_
    refine Run.ret (some (.int (nI ((nd ns n).2.1)))) d_Co_partOf_66 ⟨_, rfl⟩ ?_
    exact ⟨rfl, rfl⟩
  · refine r_iload_n (pc2 := 33) d_Co_partOf_32 rfl rfl ?_
    refine r_bipush (v := nI 8) (pc2 := 35) d_Co_partOf_33 rfl (by decide) ?_
    refine q_icmp_ne (tgt := 42) (A := (((nd ns n).1 : Nat) : Int)) (B := (8 : Int)) (pc2 := 38) d_Co_partOf_35 rfl rfl (nI_toInt (by omega)) (nI_toInt (by omega)) (fun c6 => ?_) (fun c6 => ?_)
    · refine r_iconst (v := nI 0) (pc2 := 43) d_Co_partOf_42 rfl (by decide) ?_
      refine r_istore (pc2 := 45) d_Co_partOf_43 rfl (Nat.le_of_ble_eq_true rfl) ?_
      refine r_iload_n (pc2 := 46) d_Co_partOf_45 rfl rfl ?_
      refine r_iconst (v := nI 1) (pc2 := 47) d_Co_partOf_46 rfl (by decide) ?_
      refine q_icmp_ne (tgt := 67) (A := (1 : Int)) (B := (1 : Int)) (pc2 := 50) d_Co_partOf_47 rfl rfl (nI_toInt (by omega)) (nI_toInt (by omega)) (fun c7 => ?_) (fun c7 => ?_)
      · exfalso; omega
      refine r_iload (pc2 := 52) d_Co_partOf_50 rfl rfl ?_
      refine q_if_ne (tgt := 60) (A := (0 : Int)) (pc2 := 55) d_Co_partOf_52 rfl rfl (nI_toInt (by omega)) (fun c8 => ?_) (fun c8 => ?_)
      · exfalso; omega
      refine r_iload_n (pc2 := 56) d_Co_partOf_55 rfl rfl ?_
      refine r_iconst (v := nI 3) (pc2 := 57) d_Co_partOf_56 rfl (by decide) ?_
      refine q_icmp_ne (tgt := 67) (A := (((nd ns n).1 : Nat) : Int)) (B := (3 : Int)) (pc2 := 60) d_Co_partOf_57 rfl rfl (nI_toInt (by omega)) (nI_toInt (by omega)) (fun c9 => ?_) (fun c9 => ?_)
      · refine r_iload_n (pc2 := 68) d_Co_partOf_67 rfl rfl ?_
        refine r_iconst (v := nI 2) (pc2 := 69) d_Co_partOf_68 rfl (by decide) ?_
        refine q_icmp_ne (tgt := 86) (A := (1 : Int)) (B := (2 : Int)) (pc2 := 72) d_Co_partOf_69 rfl rfl (nI_toInt (by omega)) (nI_toInt (by omega)) (fun c10 => ?_) (fun c10 => ?_)
        rotate_left
        · exfalso; omega
        refine r_iconst (v := (-1 : Int32)) (pc2 := 87) d_Co_partOf_86 rfl (by decide) ?_
        refine Run.ret (some (.int ((-1 : Int32)))) d_Co_partOf_87 ⟨_, rfl⟩ ?_
        exfalso; omega
      · refine r_aload_n (x := some c) (pc2 := 61) d_Co_partOf_60 rfl rfl ?_
        refine q_getR (x := some (c + 2)) (pc2 := 64) d_Co_partOf_61 rfl k_Co_21 rfl hC.1.1 hC.2.1.2.1 ?_
        refine r_iload_n (pc2 := 65) d_Co_partOf_64 rfl rfl ?_
        refine q_iaload (q := n) (x := nI ((nd ns n).2.1)) (pc2 := 66) d_Co_partOf_65 rfl hC.1.2.2.1 (nI_toInt (by omega)) (by omega) ((hC.2.2 n (by omega)).2.1) ?_
        refine Run.ret (some (.int (nI ((nd ns n).2.1)))) d_Co_partOf_66 ⟨_, rfl⟩ ?_
        exact ⟨rfl, rfl⟩
    · refine r_iconst (v := nI 1) (pc2 := 39) d_Co_partOf_38 rfl (by decide) ?_
      refine r_goto (tgt := 43) d_Co_partOf_39 rfl ?_
      refine r_istore (pc2 := 45) d_Co_partOf_43 rfl (Nat.le_of_ble_eq_true rfl) ?_
      refine r_iload_n (pc2 := 46) d_Co_partOf_45 rfl rfl ?_
      refine r_iconst (v := nI 1) (pc2 := 47) d_Co_partOf_46 rfl (by decide) ?_
      refine q_icmp_ne (tgt := 67) (A := (1 : Int)) (B := (1 : Int)) (pc2 := 50) d_Co_partOf_47 rfl rfl (nI_toInt (by omega)) (nI_toInt (by omega)) (fun c11 => ?_) (fun c11 => ?_)
      · exfalso; omega
      refine r_iload (pc2 := 52) d_Co_partOf_50 rfl rfl ?_
      refine q_if_ne (tgt := 60) (A := (1 : Int)) (pc2 := 55) d_Co_partOf_52 rfl rfl (nI_toInt (by omega)) (fun c12 => ?_) (fun c12 => ?_)
      rotate_left
      · exfalso; omega
      refine r_aload_n (x := some c) (pc2 := 61) d_Co_partOf_60 rfl rfl ?_
      refine q_getR (x := some (c + 2)) (pc2 := 64) d_Co_partOf_61 rfl k_Co_21 rfl hC.1.1 hC.2.1.2.1 ?_
      refine r_iload_n (pc2 := 65) d_Co_partOf_64 rfl rfl ?_
      refine q_iaload (q := n) (x := nI ((nd ns n).2.1)) (pc2 := 66) d_Co_partOf_65 rfl hC.1.2.2.1 (nI_toInt (by omega)) (by omega) ((hC.2.2 n (by omega)).2.1) ?_
      refine Run.ret (some (.int (nI ((nd ns n).2.1)))) d_Co_partOf_66 ⟨_, rfl⟩ ?_
      exact ⟨rfl, rfl⟩
theorem k_Co_partOf_2 {d : Nat} {J : Nat → Nat → Int32} {R : Nat → Nat → Option Nat} {L : Nat → Nat → Int64} {sh : Nat → Nat × Nat} {N : Nat} (hS : ShOK sh) (hR : RfOK R) {c n : Nat} {ns : List Nd} (hC : CoK c ns J R sh) (hv : NV ns) (hl : ns.length < 250) (hn : n < ns.length) (hk : 7 ≤ (nd ns n).1) (hd : 1 ≤ d) : Me mi_Co_partOf d 0 0 [.ref c, .int (nI n), .int (nI 2)] (J, R, L, sh, N) (some (.int (nI (nd ns n).2.2.1))) (J, R, L, sh, N) := by
  obtain ⟨hv1, hv2, hv3, hv4, hv5⟩ := hv.nd hn
  have hy := hv3 hk
  have hx := hv2 (Or.inr hk)
  refine Mt.of pn_Co (Nat.le_of_ble_eq_true rfl) ?_
  show Run mi_Co_partOf d 0 0 0 [(0, .ref c), (1, .int (nI n)), (2, .int (nI 2))] [] (J, R, L, sh, N) _
  refine r_aload_n (x := some c) (pc2 := 1) d_Co_partOf_0 rfl rfl ?_
  refine r_iload_n (pc2 := 2) d_Co_partOf_1 rfl rfl ?_
  refine q_callv (M2 := mi_Co_kindOf) (pc2 := 5) d_Co_partOf_2 rfl k_Co_34 cm_Co_kindOf cv_Co_kindOf hC.1.1 (by decide) rfl rfl rfl (Nat.le_of_ble_eq_true rfl) (k_Co_kindOf (J := J) hS hR (n := n) hC hv hl (by omega)) (d2 := d - 1) (by omega) (Nat.le_of_eq (Nat.zero_add _)) (Nat.le_of_eq (Nat.zero_add _)) ?_
  refine r_istore_n (pc2 := 6) d_Co_partOf_5 rfl rfl (Nat.le_of_ble_eq_true rfl) ?_
  refine r_iload_n (pc2 := 7) d_Co_partOf_6 rfl rfl ?_
  refine r_iconst (v := (-1 : Int32)) (pc2 := 8) d_Co_partOf_7 rfl (by decide) ?_
  refine q_icmp_eq (tgt := 15) (A := (((nd ns n).1 : Nat) : Int)) (B := (-1 : Int)) (pc2 := 11) d_Co_partOf_8 rfl rfl (nI_toInt (by omega)) (by decide) (fun c1 => ?_) (fun c1 => ?_)
  · exfalso; omega
  refine r_iload_n (pc2 := 12) d_Co_partOf_11 rfl rfl ?_
  refine q_if_ne (tgt := 26) (A := (2 : Int)) (pc2 := 15) d_Co_partOf_12 rfl rfl (nI_toInt (by omega)) (fun c2 => ?_) (fun c2 => ?_)
  rotate_left
  · exfalso; omega
  refine r_iload_n (pc2 := 27) d_Co_partOf_26 rfl rfl ?_
  refine r_bipush (v := nI 7) (pc2 := 29) d_Co_partOf_27 rfl (by decide) ?_
  refine q_icmp_eq (tgt := 38) (A := (((nd ns n).1 : Nat) : Int)) (B := (7 : Int)) (pc2 := 32) d_Co_partOf_29 rfl rfl (nI_toInt (by omega)) (nI_toInt (by omega)) (fun c3 => ?_) (fun c3 => ?_)
  · refine r_iconst (v := nI 1) (pc2 := 39) d_Co_partOf_38 rfl (by decide) ?_
    refine r_goto (tgt := 43) d_Co_partOf_39 rfl ?_
    refine r_istore (pc2 := 45) d_Co_partOf_43 rfl (Nat.le_of_ble_eq_true rfl) ?_
    refine r_iload_n (pc2 := 46) d_Co_partOf_45 rfl rfl ?_
    refine r_iconst (v := nI 1) (pc2 := 47) d_Co_partOf_46 rfl (by decide) ?_
    refine q_icmp_ne (tgt := 67) (A := (2 : Int)) (B := (1 : Int)) (pc2 := 50) d_Co_partOf_47 rfl rfl (nI_toInt (by omega)) (nI_toInt (by omega)) (fun c4 => ?_) (fun c4 => ?_)
    rotate_left
    · exfalso; omega
    refine r_iload_n (pc2 := 68) d_Co_partOf_67 rfl rfl ?_
    refine r_iconst (v := nI 2) (pc2 := 69) d_Co_partOf_68 rfl (by decide) ?_
    refine q_icmp_ne (tgt := 86) (A := (2 : Int)) (B := (2 : Int)) (pc2 := 72) d_Co_partOf_69 rfl rfl (nI_toInt (by omega)) (nI_toInt (by omega)) (fun c5 => ?_) (fun c5 => ?_)
    · exfalso; omega
    refine r_iload (pc2 := 74) d_Co_partOf_72 rfl rfl ?_
    refine q_if_eq (tgt := 86) (A := (1 : Int)) (pc2 := 77) d_Co_partOf_74 rfl rfl (nI_toInt (by omega)) (fun c6 => ?_) (fun c6 => ?_)
    · exfalso; omega
    refine r_aload_n (x := some c) (pc2 := 78) d_Co_partOf_77 rfl rfl ?_
    refine q_getR (x := some (c + 3)) (pc2 := 81) d_Co_partOf_78 rfl k_Co_24 rfl hC.1.1 hC.2.1.2.2.1 ?_
    refine r_iload_n (pc2 := 82) d_Co_partOf_81 rfl rfl ?_
    refine q_iaload (q := n) (x := nI ((nd ns n).2.2.1)) (pc2 := 83) d_Co_partOf_82 rfl hC.1.2.2.2.1 (nI_toInt (by omega)) (by omega) ((hC.2.2 n (by omega)).2.2.1 (by omega)) ?_
    refine r_goto (tgt := 87) d_Co_partOf_83 rfl ?_
    refine Run.ret (some (.int (nI ((nd ns n).2.2.1)))) d_Co_partOf_87 ⟨_, rfl⟩ ?_
    exact ⟨rfl, rfl⟩
  · refine r_iload_n (pc2 := 33) d_Co_partOf_32 rfl rfl ?_
    refine r_bipush (v := nI 8) (pc2 := 35) d_Co_partOf_33 rfl (by decide) ?_
    refine q_icmp_ne (tgt := 42) (A := (((nd ns n).1 : Nat) : Int)) (B := (8 : Int)) (pc2 := 38) d_Co_partOf_35 rfl rfl (nI_toInt (by omega)) (nI_toInt (by omega)) (fun c7 => ?_) (fun c7 => ?_)
    · refine r_iconst (v := nI 0) (pc2 := 43) d_Co_partOf_42 rfl (by decide) ?_
      refine r_istore (pc2 := 45) d_Co_partOf_43 rfl (Nat.le_of_ble_eq_true rfl) ?_
      refine r_iload_n (pc2 := 46) d_Co_partOf_45 rfl rfl ?_
      refine r_iconst (v := nI 1) (pc2 := 47) d_Co_partOf_46 rfl (by decide) ?_
      refine q_icmp_ne (tgt := 67) (A := (2 : Int)) (B := (1 : Int)) (pc2 := 50) d_Co_partOf_47 rfl rfl (nI_toInt (by omega)) (nI_toInt (by omega)) (fun c8 => ?_) (fun c8 => ?_)
      rotate_left
      · exfalso; omega
      refine r_iload_n (pc2 := 68) d_Co_partOf_67 rfl rfl ?_
      refine r_iconst (v := nI 2) (pc2 := 69) d_Co_partOf_68 rfl (by decide) ?_
      refine q_icmp_ne (tgt := 86) (A := (2 : Int)) (B := (2 : Int)) (pc2 := 72) d_Co_partOf_69 rfl rfl (nI_toInt (by omega)) (nI_toInt (by omega)) (fun c9 => ?_) (fun c9 => ?_)
      · exfalso; omega
      refine r_iload (pc2 := 74) d_Co_partOf_72 rfl rfl ?_
      refine q_if_eq (tgt := 86) (A := (0 : Int)) (pc2 := 77) d_Co_partOf_74 rfl rfl (nI_toInt (by omega)) (fun c10 => ?_) (fun c10 => ?_)
      rotate_left
      · exfalso; omega
      refine r_iconst (v := (-1 : Int32)) (pc2 := 87) d_Co_partOf_86 rfl (by decide) ?_
      refine Run.ret (some (.int ((-1 : Int32)))) d_Co_partOf_87 ⟨_, rfl⟩ ?_
      exfalso; omega
    · refine r_iconst (v := nI 1) (pc2 := 39) d_Co_partOf_38 rfl (by decide) ?_
      refine r_goto (tgt := 43) d_Co_partOf_39 rfl ?_
      refine r_istore (pc2 := 45) d_Co_partOf_43 rfl (Nat.le_of_ble_eq_true rfl) ?_
      refine r_iload_n (pc2 := 46) d_Co_partOf_45 rfl rfl ?_
      refine r_iconst (v := nI 1) (pc2 := 47) d_Co_partOf_46 rfl (by decide) ?_
      refine q_icmp_ne (tgt := 67) (A := (2 : Int)) (B := (1 : Int)) (pc2 := 50) d_Co_partOf_47 rfl rfl (nI_toInt (by omega)) (nI_toInt (by omega)) (fun c11 => ?_) (fun c11 => ?_)
      rotate_left
      · exfalso; omega
      refine r_iload_n (pc2 := 68) d_Co_partOf_67 rfl rfl ?_
      refine r_iconst (v := nI 2) (pc2 := 69) d_Co_partOf_68 rfl (by decide) ?_
      refine q_icmp_ne (tgt := 86) (A := (2 : Int)) (B := (2 : Int)) (pc2 := 72) d_Co_partOf_69 rfl rfl (nI_toInt (by omega)) (nI_toInt (by omega)) (fun c12 => ?_) (fun c12 => ?_)
      · exfalso; omega
      refine r_iload (pc2 := 74) d_Co_partOf_72 rfl rfl ?_
      refine q_if_eq (tgt := 86) (A := (1 : Int)) (pc2 := 77) d_Co_partOf_74 rfl rfl (nI_toInt (by omega)) (fun c13 => ?_) (fun c13 => ?_)
      · exfalso; omega
      refine r_aload_n (x := some c) (pc2 := 78) d_Co_partOf_77 rfl rfl ?_
      refine q_getR (x := some (c + 3)) (pc2 := 81) d_Co_partOf_78 rfl k_Co_24 rfl hC.1.1 hC.2.1.2.2.1 ?_
      refine r_iload_n (pc2 := 82) d_Co_partOf_81 rfl rfl ?_
      refine q_iaload (q := n) (x := nI ((nd ns n).2.2.1)) (pc2 := 83) d_Co_partOf_82 rfl hC.1.2.2.2.1 (nI_toInt (by omega)) (by omega) ((hC.2.2 n (by omega)).2.2.1 (by omega)) ?_
      refine r_goto (tgt := 87) d_Co_partOf_83 rfl ?_
      refine Run.ret (some (.int (nI ((nd ns n).2.2.1)))) d_Co_partOf_87 ⟨_, rfl⟩ ?_
      exact ⟨rfl, rfl⟩
theorem k_Sp_isBracketed_1 {d : Nat} {J : Nat → Nat → Int32} {R : Nat → Nat → Option Nat} {L : Nat → Nat → Int64} {sh : Nat → Nat × Nat} {N : Nat} (hS : ShOK sh) (hR : RfOK R) {c n : Nat} {ns : List Nd} (hC : CoK c ns J R sh) (hv : NV ns) (hl : ns.length < 250) (hn : n < ns.length) (hk : (nd ns n).1 = 3 ∨ 7 ≤ (nd ns n).1) (hd : 2 ≤ d) : Me mi_Sp_isBracketed d 0 0 [.ref c, .int (nI n), .int (nI 1)] (J, R, L, sh, N) (some (.int (bI (b1 ns n = true)))) (J, R, L, sh, N) := by
  obtain ⟨hv1, hv2, hv3, hv4, hv5⟩ := hv.nd hn
  have hx := hv2 hk
  obtain ⟨hb1, -⟩ := hv.nd (show (nd ns n).2.1 < ns.length by omega)
  refine Mt.of pn_Sp (Nat.le_of_ble_eq_true rfl) ?_
  show Run mi_Sp_isBracketed d 0 0 0 [(0, .ref c), (1, .int (nI n)), (2, .int (nI 1))] [] (J, R, L, sh, N) _
  refine r_aload_n (x := some c) (pc2 := 1) d_Sp_isBracketed_0 rfl rfl ?_
  refine r_iload_n (pc2 := 2) d_Sp_isBracketed_1 rfl rfl ?_
  refine q_callv (M2 := mi_Co_kindOf) (pc2 := 5) d_Sp_isBracketed_2 rfl k_Sp_49 cm_Co_kindOf cv_Co_kindOf hC.1.1 (by decide) rfl rfl rfl (Nat.le_of_ble_eq_true rfl) (k_Co_kindOf (J := J) hS hR (n := n) hC hv hl (by omega)) (d2 := d - 1) (by omega) (Nat.le_of_eq (Nat.zero_add _)) (Nat.le_of_eq (Nat.zero_add _)) ?_
  refine r_istore_n (pc2 := 6) d_Sp_isBracketed_5 rfl rfl (Nat.le_of_ble_eq_true rfl) ?_
  refine r_aload_n (x := some c) (pc2 := 7) d_Sp_isBracketed_6 rfl rfl ?_
  refine r_aload_n (x := some c) (pc2 := 8) d_Sp_isBracketed_7 rfl rfl ?_
  refine r_iload_n (pc2 := 9) d_Sp_isBracketed_8 rfl rfl ?_
  refine r_iload_n (pc2 := 10) d_Sp_isBracketed_9 rfl rfl ?_
  refine q_callv (M2 := mi_Co_partOf) (pc2 := 13) d_Sp_isBracketed_10 rfl k_Sp_66 cm_Co_partOf cv_Co_partOf hC.1.1 (by decide) rfl rfl rfl (Nat.le_of_ble_eq_true rfl) (k_Co_partOf_1 (J := J) hS hR hC hv hl hn (by omega) (by omega)) (d2 := d - 1) (by omega) (Nat.le_of_eq (Nat.zero_add _)) (Nat.le_of_eq (Nat.zero_add _)) ?_
  refine q_callv (M2 := mi_Co_kindOf) (pc2 := 16) d_Sp_isBracketed_13 rfl k_Sp_49 cm_Co_kindOf cv_Co_kindOf hC.1.1 (by decide) rfl rfl rfl (Nat.le_of_ble_eq_true rfl) (k_Co_kindOf (J := J) hS hR (n := (nd ns n).2.1) hC hv hl (by omega)) (d2 := d - 1) (by omega) (Nat.le_of_eq (Nat.zero_add _)) (Nat.le_of_eq (Nat.zero_add _)) ?_
  refine r_istore (pc2 := 18) d_Sp_isBracketed_16 rfl (Nat.le_of_ble_eq_true rfl) ?_
  refine r_iload (pc2 := 20) d_Sp_isBracketed_18 rfl rfl ?_
  refine r_bipush (v := nI 7) (pc2 := 22) d_Sp_isBracketed_20 rfl (by decide) ?_
  refine q_icmp_eq (tgt := 34) (A := (((nd ns ((nd ns n).2.1)).1 : Nat) : Int)) (B := (7 : Int)) (pc2 := 25) d_Sp_isBracketed_22 rfl rfl (nI_toInt (by omega)) (nI_toInt (by omega)) (fun c1 => ?_) (fun c1 => ?_)
  · refine r_iload_n (pc2 := 35) d_Sp_isBracketed_34 rfl rfl ?_
    refine r_bipush (v := nI 8) (pc2 := 37) d_Sp_isBracketed_35 rfl (by decide) ?_
    refine q_icmp_ne (tgt := 58) (A := (((nd ns n).1 : Nat) : Int)) (B := (8 : Int)) (pc2 := 40) d_Sp_isBracketed_37 rfl rfl (nI_toInt (by omega)) (nI_toInt (by omega)) (fun c2 => ?_) (fun c2 => ?_)
    · refine r_iload_n (pc2 := 59) d_Sp_isBracketed_58 rfl rfl ?_
      refine r_iconst (v := nI 3) (pc2 := 60) d_Sp_isBracketed_59 rfl (by decide) ?_
      refine q_icmp_eq (tgt := 75) (A := (((nd ns n).1 : Nat) : Int)) (B := (3 : Int)) (pc2 := 63) d_Sp_isBracketed_60 rfl rfl (nI_toInt (by omega)) (nI_toInt (by omega)) (fun c3 => ?_) (fun c3 => ?_)
      · refine r_iconst (v := nI 1) (pc2 := 76) d_Sp_isBracketed_75 rfl (by decide) ?_
        refine r_goto (tgt := 80) d_Sp_isBracketed_76 rfl ?_
        refine Run.ret (some (.int (nI 1))) d_Sp_isBracketed_80 ⟨_, rfl, by decide⟩ ?_
        exact ⟨by rw [bI_t (by unfold b1 k7 k8; (repeat' split) <;> first | (simp only [decide_eq_true_eq]; omega) | exact Bool.false_ne_true | (exfalso; omega))]; rfl, rfl⟩
      · refine r_iload_n (pc2 := 64) d_Sp_isBracketed_63 rfl rfl ?_
        refine r_iconst (v := nI 2) (pc2 := 65) d_Sp_isBracketed_64 rfl (by decide) ?_
        refine q_icmp_eq (tgt := 75) (A := (1 : Int)) (B := (2 : Int)) (pc2 := 68) d_Sp_isBracketed_65 rfl rfl (nI_toInt (by omega)) (nI_toInt (by omega)) (fun c4 => ?_) (fun c4 => ?_)
        · exfalso; omega
        refine r_iload (pc2 := 70) d_Sp_isBracketed_68 rfl rfl ?_
        refine r_bipush (v := nI 8) (pc2 := 72) d_Sp_isBracketed_70 rfl (by decide) ?_
        refine q_icmp_ne (tgt := 79) (A := (((nd ns ((nd ns n).2.1)).1 : Nat) : Int)) (B := (8 : Int)) (pc2 := 75) d_Sp_isBracketed_72 rfl rfl (nI_toInt (by omega)) (nI_toInt (by omega)) (fun c5 => ?_) (fun c5 => ?_)
        · refine r_iconst (v := nI 0) (pc2 := 80) d_Sp_isBracketed_79 rfl (by decide) ?_
          refine Run.ret (some (.int (nI 0))) d_Sp_isBracketed_80 ⟨_, rfl, by decide⟩ ?_
          exact ⟨by rw [bI_f (by unfold b1 k7 k8; (repeat' split) <;> first | (simp only [decide_eq_true_eq]; omega) | exact Bool.false_ne_true | (exfalso; omega))]; rfl, rfl⟩
        · refine r_iconst (v := nI 1) (pc2 := 76) d_Sp_isBracketed_75 rfl (by decide) ?_
          refine r_goto (tgt := 80) d_Sp_isBracketed_76 rfl ?_
          refine Run.ret (some (.int (nI 1))) d_Sp_isBracketed_80 ⟨_, rfl, by decide⟩ ?_
          exact ⟨by rw [bI_t (by unfold b1 k7 k8; (repeat' split) <;> first | (simp only [decide_eq_true_eq]; omega) | exact Bool.false_ne_true | (exfalso; omega))]; rfl, rfl⟩
    · refine r_iload_n (pc2 := 41) d_Sp_isBracketed_40 rfl rfl ?_
      refine r_iconst (v := nI 2) (pc2 := 42) d_Sp_isBracketed_41 rfl (by decide) ?_
      refine q_icmp_ne (tgt := 56) (A := (1 : Int)) (B := (2 : Int)) (pc2 := 45) d_Sp_isBracketed_42 rfl rfl (nI_toInt (by omega)) (nI_toInt (by omega)) (fun c6 => ?_) (fun c6 => ?_)
      rotate_left
      · exfalso; omega
      refine r_iconst (v := nI 0) (pc2 := 57) d_Sp_isBracketed_56 rfl (by decide) ?_
      refine Run.ret (some (.int (nI 0))) d_Sp_isBracketed_57 ⟨_, rfl, by decide⟩ ?_
      exact ⟨by rw [bI_f (by unfold b1 k7 k8; (repeat' split) <;> first | (simp only [decide_eq_true_eq]; omega) | exact Bool.false_ne_true | (exfalso; omega))]; rfl, rfl⟩
  · refine r_iload (pc2 := 27) d_Sp_isBracketed_25 rfl rfl ?_
    refine r_bipush (v := nI 8) (pc2 := 29) d_Sp_isBracketed_27 rfl (by decide) ?_
    refine q_icmp_eq (tgt := 34) (A := (((nd ns ((nd ns n).2.1)).1 : Nat) : Int)) (B := (8 : Int)) (pc2 := 32) d_Sp_isBracketed_29 rfl rfl (nI_toInt (by omega)) (nI_toInt (by omega)) (fun c7 => ?_) (fun c7 => ?_)
    · refine r_iload_n (pc2 := 35) d_Sp_isBracketed_34 rfl rfl ?_
      refine r_bipush (v := nI 8) (pc2 := 37) d_Sp_isBracketed_35 rfl (by decide) ?_
      refine q_icmp_ne (tgt := 58) (A := (((nd ns n).1 : Nat) : Int)) (B := (8 : Int)) (pc2 := 40) d_Sp_isBracketed_37 rfl rfl (nI_toInt (by omega)) (nI_toInt (by omega)) (fun c8 => ?_) (fun c8 => ?_)
      · refine r_iload_n (pc2 := 59) d_Sp_isBracketed_58 rfl rfl ?_
        refine r_iconst (v := nI 3) (pc2 := 60) d_Sp_isBracketed_59 rfl (by decide) ?_
        refine q_icmp_eq (tgt := 75) (A := (((nd ns n).1 : Nat) : Int)) (B := (3 : Int)) (pc2 := 63) d_Sp_isBracketed_60 rfl rfl (nI_toInt (by omega)) (nI_toInt (by omega)) (fun c9 => ?_) (fun c9 => ?_)
        · refine r_iconst (v := nI 1) (pc2 := 76) d_Sp_isBracketed_75 rfl (by decide) ?_
          refine r_goto (tgt := 80) d_Sp_isBracketed_76 rfl ?_
          refine Run.ret (some (.int (nI 1))) d_Sp_isBracketed_80 ⟨_, rfl, by decide⟩ ?_
          exact ⟨by rw [bI_t (by unfold b1 k7 k8; (repeat' split) <;> first | (simp only [decide_eq_true_eq]; omega) | exact Bool.false_ne_true | (exfalso; omega))]; rfl, rfl⟩
        · refine r_iload_n (pc2 := 64) d_Sp_isBracketed_63 rfl rfl ?_
          refine r_iconst (v := nI 2) (pc2 := 65) d_Sp_isBracketed_64 rfl (by decide) ?_
          refine q_icmp_eq (tgt := 75) (A := (1 : Int)) (B := (2 : Int)) (pc2 := 68) d_Sp_isBracketed_65 rfl rfl (nI_toInt (by omega)) (nI_toInt (by omega)) (fun c10 => ?_) (fun c10 => ?_)
          · exfalso; omega
          refine r_iload (pc2 := 70) d_Sp_isBracketed_68 rfl rfl ?_
          refine r_bipush (v := nI 8) (pc2 := 72) d_Sp_isBracketed_70 rfl (by decide) ?_
          refine q_icmp_ne (tgt := 79) (A := (((nd ns ((nd ns n).2.1)).1 : Nat) : Int)) (B := (8 : Int)) (pc2 := 75) d_Sp_isBracketed_72 rfl rfl (nI_toInt (by omega)) (nI_toInt (by omega)) (fun c11 => ?_) (fun c11 => ?_)
          · refine r_iconst (v := nI 0) (pc2 := 80) d_Sp_isBracketed_79 rfl (by decide) ?_
            refine Run.ret (some (.int (nI 0))) d_Sp_isBracketed_80 ⟨_, rfl, by decide⟩ ?_
            exact ⟨by rw [bI_f (by unfold b1 k7 k8; (repeat' split) <;> first | (simp only [decide_eq_true_eq]; omega) | exact Bool.false_ne_true | (exfalso; omega))]; rfl, rfl⟩
          · refine r_iconst (v := nI 1) (pc2 := 76) d_Sp_isBracketed_75 rfl (by decide) ?_
            refine r_goto (tgt := 80) d_Sp_isBracketed_76 rfl ?_
            refine Run.ret (some (.int (nI 1))) d_Sp_isBracketed_80 ⟨_, rfl, by decide⟩ ?_
            exact ⟨by rw [bI_t (by unfold b1 k7 k8; (repeat' split) <;> first | (simp only [decide_eq_true_eq]; omega) | exact Bool.false_ne_true | (exfalso; omega))]; rfl, rfl⟩
      · refine r_iload_n (pc2 := 41) d_Sp_isBracketed_40 rfl rfl ?_
        refine r_iconst (v := nI 2) (pc2 := 42) d_Sp_isBracketed_41 rfl (by decide) ?_
        refine q_icmp_ne (tgt := 56) (A := (1 : Int)) (B := (2 : Int)) (pc2 := 45) d_Sp_isBracketed_42 rfl rfl (nI_toInt (by omega)) (nI_toInt (by omega)) (fun c12 => ?_) (fun c12 => ?_)
        rotate_left
        · exfalso; omega
        refine r_iconst (v := nI 0) (pc2 := 57) d_Sp_isBracketed_56 rfl (by decide) ?_
        refine Run.ret (some (.int (nI 0))) d_Sp_isBracketed_57 ⟨_, rfl, by decide⟩ ?_
        exact ⟨by rw [bI_f (by unfold b1 k7 k8; (repeat' split) <;> first | (simp only [decide_eq_true_eq]; omega) | exact Bool.false_ne_true | (exfalso; omega))]; rfl, rfl⟩
    · refine r_iconst (v := nI 0) (pc2 := 33) d_Sp_isBracketed_32 rfl (by decide) ?_
      refine Run.ret (some (.int (nI 0))) d_Sp_isBracketed_33 ⟨_, rfl, by decide⟩ ?_
      exact ⟨by rw [bI_f (by unfold b1 k7 k8; (repeat' split) <;> first | (simp only [decide_eq_true_eq]; omega) | exact Bool.false_ne_true | (exfalso; omega))]; rfl, rfl⟩
theorem k_Sp_partLength_1 {d : Nat} {J : Nat → Nat → Int32} {R : Nat → Nat → Option Nat} {L : Nat → Nat → Int64} {sh : Nat → Nat × Nat} {N : Nat} (hS : ShOK sh) (hR : RfOK R) {c n : Nat} {ns : List Nd} (hC : CoK c ns J R sh) (hv : NV ns) (hl : ns.length < 250) (hn : n < ns.length) (hk : (nd ns n).1 = 3 ∨ 7 ≤ (nd ns n).1) (hL : J 741 (nd ns n).2.1 = nI (ln ns (nd ns n).2.1)) (hd : 3 ≤ d) : Me mi_Sp_partLength d 0 0 [.ref 740, .ref c, .int (nI n), .int (nI 1)] (J, R, L, sh, N) (some (.int (nI (ln ns (nd ns n).2.1 + plus2 (b1 ns n))))) (J, R, L, sh, N) := by
  obtain ⟨hv1, hv2, hv3, hv4, hv5⟩ := hv.nd hn
  have hx := hv2 hk
  obtain ⟨hb1, -⟩ := hv.nd (show (nd ns n).2.1 < ns.length by omega)
  refine Mt.of pn_Sp (Nat.le_of_ble_eq_true rfl) ?_
  show Run mi_Sp_partLength d 0 0 0 [(0, .ref 740), (1, .ref c), (2, .int (nI n)), (3, .int (nI 1))] [] (J, R, L, sh, N) _
  refine r_aload_n (x := some c) (pc2 := 1) d_Sp_partLength_0 rfl rfl ?_
  refine r_iload_n (pc2 := 2) d_Sp_partLength_1 rfl rfl ?_
  refine r_iload_n (pc2 := 3) d_Sp_partLength_2 rfl rfl ?_
  refine q_callv (M2 := mi_Co_partOf) (pc2 := 6) d_Sp_partLength_3 rfl k_Sp_66 cm_Co_partOf cv_Co_partOf hC.1.1 (by decide) rfl rfl rfl (Nat.le_of_ble_eq_true rfl) (k_Co_partOf_1 (J := J) hS hR hC hv hl hn (by omega) (by omega)) (d2 := d - 1) (by omega) (Nat.le_of_eq (Nat.zero_add _)) (Nat.le_of_eq (Nat.zero_add _)) ?_
  refine r_istore (pc2 := 8) d_Sp_partLength_6 rfl (Nat.le_of_ble_eq_true rfl) ?_
  refine r_iload (pc2 := 10) d_Sp_partLength_8 rfl rfl ?_
  refine r_iconst (v := (-1 : Int32)) (pc2 := 11) d_Sp_partLength_10 rfl (by decide) ?_
  refine q_icmp_ne (tgt := 16) (A := (((nd ns n).2.1 : Nat) : Int)) (B := (-1 : Int)) (pc2 := 14) d_Sp_partLength_11 rfl rfl (nI_toInt (by omega)) (by decide) (fun c1 => ?_) (fun c1 => ?_)
  rotate_left
  · exfalso; omega
  refine r_aload_n (x := some 740) (pc2 := 17) d_Sp_partLength_16 rfl rfl ?_
  refine q_getR (x := some 741) (pc2 := 20) d_Sp_partLength_17 rfl k_Sp_9 rfl (sh_740 hS) (rf_740_0 hR) ?_
  refine r_iload (pc2 := 22) d_Sp_partLength_20 rfl rfl ?_
  refine q_iaload (q := (nd ns n).2.1) (x := nI (ln ns (nd ns n).2.1)) (pc2 := 23) d_Sp_partLength_22 rfl (sh_741 hS) (nI_toInt (by omega)) (by omega) hL ?_
  refine r_aload_n (x := some c) (pc2 := 24) d_Sp_partLength_23 rfl rfl ?_
  refine r_iload_n (pc2 := 25) d_Sp_partLength_24 rfl rfl ?_
  refine r_iload_n (pc2 := 26) d_Sp_partLength_25 rfl rfl ?_
  refine q_calls (M2 := mi_Sp_isBracketed) (pc2 := 29) d_Sp_partLength_26 rfl k_Sp_70 cm_Sp_isBracketed cs_Sp_isBracketed rfl rfl (Nat.le_of_ble_eq_true rfl) (k_Sp_isBracketed_1 (J := J) hS hR hC hv hl hn (by omega) (by omega)) (d2 := d - 1) (by omega) (Nat.le_of_eq (Nat.zero_add _)) (Nat.le_of_eq (Nat.zero_add _)) ?_
  refine q_bif_eq (tgt := 36) (pc2 := 32) d_Sp_partLength_29 rfl rfl (fun c2 => ?_) (fun c2 => ?_)
  · refine r_iconst (v := nI 0) (pc2 := 37) d_Sp_partLength_36 rfl (by decide) ?_
    refine q_iaddN (pc2 := 38) d_Sp_partLength_37 rfl ?_
    refine Run.ret (some (.int (nI (ln ns (nd ns n).2.1 + 0)))) d_Sp_partLength_38 ⟨_, rfl⟩ ?_
    exact ⟨by unfold plus2; rw [if_neg (by assumption)], rfl⟩
  · refine r_iconst (v := nI 2) (pc2 := 33) d_Sp_partLength_32 rfl (by decide) ?_
    refine r_goto (tgt := 37) d_Sp_partLength_33 rfl ?_
    refine q_iaddN (pc2 := 38) d_Sp_partLength_37 rfl ?_
    refine Run.ret (some (.int (nI (ln ns (nd ns n).2.1 + 2)))) d_Sp_partLength_38 ⟨_, rfl⟩ ?_
    exact ⟨by unfold plus2; rw [if_pos (by assumption)], rfl⟩
theorem k_Sp_isBracketed_2 {d : Nat} {J : Nat → Nat → Int32} {R : Nat → Nat → Option Nat} {L : Nat → Nat → Int64} {sh : Nat → Nat × Nat} {N : Nat} (hS : ShOK sh) (hR : RfOK R) {c n : Nat} {ns : List Nd} (hC : CoK c ns J R sh) (hv : NV ns) (hl : ns.length < 250) (hn : n < ns.length) (hk : 7 ≤ (nd ns n).1) (hd : 2 ≤ d) : Me mi_Sp_isBracketed d 0 0 [.ref c, .int (nI n), .int (nI 2)] (J, R, L, sh, N) (some (.int (bI (b2 ns n = true)))) (J, R, L, sh, N) := by
  obtain ⟨hv1, hv2, hv3, hv4, hv5⟩ := hv.nd hn
  have hx := hv2 (Or.inr hk)
  obtain ⟨hb1, -⟩ := hv.nd (show (nd ns n).2.1 < ns.length by omega)
  have hy := hv3 hk
  obtain ⟨hb2, -⟩ := hv.nd (show (nd ns n).2.2.1 < ns.length by omega)
  refine Mt.of pn_Sp (Nat.le_of_ble_eq_true rfl) ?_
  show Run mi_Sp_isBracketed d 0 0 0 [(0, .ref c), (1, .int (nI n)), (2, .int (nI 2))] [] (J, R, L, sh, N) _
  refine r_aload_n (x := some c) (pc2 := 1) d_Sp_isBracketed_0 rfl rfl ?_
  refine r_iload_n (pc2 := 2) d_Sp_isBracketed_1 rfl rfl ?_
  refine q_callv (M2 := mi_Co_kindOf) (pc2 := 5) d_Sp_isBracketed_2 rfl k_Sp_49 cm_Co_kindOf cv_Co_kindOf hC.1.1 (by decide) rfl rfl rfl (Nat.le_of_ble_eq_true rfl) (k_Co_kindOf (J := J) hS hR (n := n) hC hv hl (by omega)) (d2 := d - 1) (by omega) (Nat.le_of_eq (Nat.zero_add _)) (Nat.le_of_eq (Nat.zero_add _)) ?_
  refine r_istore_n (pc2 := 6) d_Sp_isBracketed_5 rfl rfl (Nat.le_of_ble_eq_true rfl) ?_
  refine r_aload_n (x := some c) (pc2 := 7) d_Sp_isBracketed_6 rfl rfl ?_
  refine r_aload_n (x := some c) (pc2 := 8) d_Sp_isBracketed_7 rfl rfl ?_
  refine r_iload_n (pc2 := 9) d_Sp_isBracketed_8 rfl rfl ?_
  refine r_iload_n (pc2 := 10) d_Sp_isBracketed_9 rfl rfl ?_
  refine q_callv (M2 := mi_Co_partOf) (pc2 := 13) d_Sp_isBracketed_10 rfl k_Sp_66 cm_Co_partOf cv_Co_partOf hC.1.1 (by decide) rfl rfl rfl (Nat.le_of_ble_eq_true rfl) (k_Co_partOf_2 (J := J) hS hR hC hv hl hn (by omega) (by omega)) (d2 := d - 1) (by omega) (Nat.le_of_eq (Nat.zero_add _)) (Nat.le_of_eq (Nat.zero_add _)) ?_
  refine q_callv (M2 := mi_Co_kindOf) (pc2 := 16) d_Sp_isBracketed_13 rfl k_Sp_49 cm_Co_kindOf cv_Co_kindOf hC.1.1 (by decide) rfl rfl rfl (Nat.le_of_ble_eq_true rfl) (k_Co_kindOf (J := J) hS hR (n := (nd ns n).2.2.1) hC hv hl (by omega)) (d2 := d - 1) (by omega) (Nat.le_of_eq (Nat.zero_add _)) (Nat.le_of_eq (Nat.zero_add _)) ?_
  refine r_istore (pc2 := 18) d_Sp_isBracketed_16 rfl (Nat.le_of_ble_eq_true rfl) ?_
  refine r_iload (pc2 := 20) d_Sp_isBracketed_18 rfl rfl ?_
  refine r_bipush (v := nI 7) (pc2 := 22) d_Sp_isBracketed_20 rfl (by decide) ?_
  refine q_icmp_eq (tgt := 34) (A := (((nd ns ((nd ns n).2.2.1)).1 : Nat) : Int)) (B := (7 : Int)) (pc2 := 25) d_Sp_isBracketed_22 rfl rfl (nI_toInt (by omega)) (nI_toInt (by omega)) (fun c1 => ?_) (fun c1 => ?_)
  · refine r_iload_n (pc2 := 35) d_Sp_isBracketed_34 rfl rfl ?_
    refine r_bipush (v := nI 8) (pc2 := 37) d_Sp_isBracketed_35 rfl (by decide) ?_
    refine q_icmp_ne (tgt := 58) (A := (((nd ns n).1 : Nat) : Int)) (B := (8 : Int)) (pc2 := 40) d_Sp_isBracketed_37 rfl rfl (nI_toInt (by omega)) (nI_toInt (by omega)) (fun c2 => ?_) (fun c2 => ?_)
    · refine r_iload_n (pc2 := 59) d_Sp_isBracketed_58 rfl rfl ?_
      refine r_iconst (v := nI 3) (pc2 := 60) d_Sp_isBracketed_59 rfl (by decide) ?_
      refine q_icmp_eq (tgt := 75) (A := (((nd ns n).1 : Nat) : Int)) (B := (3 : Int)) (pc2 := 63) d_Sp_isBracketed_60 rfl rfl (nI_toInt (by omega)) (nI_toInt (by omega)) (fun c3 => ?_) (fun c3 => ?_)
      · refine r_iconst (v := nI 1) (pc2 := 76) d_Sp_isBracketed_75 rfl (by decide) ?_
        refine r_goto (tgt := 80) d_Sp_isBracketed_76 rfl ?_
        refine Run.ret (some (.int (nI 1))) d_Sp_isBracketed_80 ⟨_, rfl, by decide⟩ ?_
        exact ⟨by rw [bI_t (by unfold b2 k7 k8; (repeat' split) <;> first | (simp only [decide_eq_true_eq]; omega) | exact Bool.false_ne_true | (exfalso; omega))]; rfl, rfl⟩
      · refine r_iload_n (pc2 := 64) d_Sp_isBracketed_63 rfl rfl ?_
        refine r_iconst (v := nI 2) (pc2 := 65) d_Sp_isBracketed_64 rfl (by decide) ?_
        refine q_icmp_eq (tgt := 75) (A := (2 : Int)) (B := (2 : Int)) (pc2 := 68) d_Sp_isBracketed_65 rfl rfl (nI_toInt (by omega)) (nI_toInt (by omega)) (fun c4 => ?_) (fun c4 => ?_)
        rotate_left
        · exfalso; omega
        refine r_iconst (v := nI 1) (pc2 := 76) d_Sp_isBracketed_75 rfl (by decide) ?_
        refine r_goto (tgt := 80) d_Sp_isBracketed_76 rfl ?_
        refine Run.ret (some (.int (nI 1))) d_Sp_isBracketed_80 ⟨_, rfl, by decide⟩ ?_
        exact ⟨by rw [bI_t (by unfold b2 k7 k8; (repeat' split) <;> first | (simp only [decide_eq_true_eq]; omega) | exact Bool.false_ne_true | (exfalso; omega))]; rfl, rfl⟩
    · refine r_iload_n (pc2 := 41) d_Sp_isBracketed_40 rfl rfl ?_
      refine r_iconst (v := nI 2) (pc2 := 42) d_Sp_isBracketed_41 rfl (by decide) ?_
      refine q_icmp_ne (tgt := 56) (A := (2 : Int)) (B := (2 : Int)) (pc2 := 45) d_Sp_isBracketed_42 rfl rfl (nI_toInt (by omega)) (nI_toInt (by omega)) (fun c5 => ?_) (fun c5 => ?_)
      · exfalso; omega
      refine r_iload (pc2 := 47) d_Sp_isBracketed_45 rfl rfl ?_
      refine r_bipush (v := nI 8) (pc2 := 49) d_Sp_isBracketed_47 rfl (by decide) ?_
      refine q_icmp_ne (tgt := 56) (A := (((nd ns ((nd ns n).2.2.1)).1 : Nat) : Int)) (B := (8 : Int)) (pc2 := 52) d_Sp_isBracketed_49 rfl rfl (nI_toInt (by omega)) (nI_toInt (by omega)) (fun c6 => ?_) (fun c6 => ?_)
      · refine r_iconst (v := nI 0) (pc2 := 57) d_Sp_isBracketed_56 rfl (by decide) ?_
        refine Run.ret (some (.int (nI 0))) d_Sp_isBracketed_57 ⟨_, rfl, by decide⟩ ?_
        exact ⟨by rw [bI_f (by unfold b2 k7 k8; (repeat' split) <;> first | (simp only [decide_eq_true_eq]; omega) | exact Bool.false_ne_true | (exfalso; omega))]; rfl, rfl⟩
      · refine r_iconst (v := nI 1) (pc2 := 53) d_Sp_isBracketed_52 rfl (by decide) ?_
        refine r_goto (tgt := 57) d_Sp_isBracketed_53 rfl ?_
        refine Run.ret (some (.int (nI 1))) d_Sp_isBracketed_57 ⟨_, rfl, by decide⟩ ?_
        exact ⟨by rw [bI_t (by unfold b2 k7 k8; (repeat' split) <;> first | (simp only [decide_eq_true_eq]; omega) | exact Bool.false_ne_true | (exfalso; omega))]; rfl, rfl⟩
  · refine r_iload (pc2 := 27) d_Sp_isBracketed_25 rfl rfl ?_
    refine r_bipush (v := nI 8) (pc2 := 29) d_Sp_isBracketed_27 rfl (by decide) ?_
    refine q_icmp_eq (tgt := 34) (A := (((nd ns ((nd ns n).2.2.1)).1 : Nat) : Int)) (B := (8 : Int)) (pc2 := 32) d_Sp_isBracketed_29 rfl rfl (nI_toInt (by omega)) (nI_toInt (by omega)) (fun c7 => ?_) (fun c7 => ?_)
    · refine r_iload_n (pc2 := 35) d_Sp_isBracketed_34 rfl rfl ?_
      refine r_bipush (v := nI 8) (pc2 := 37) d_Sp_isBracketed_35 rfl (by decide) ?_
      refine q_icmp_ne (tgt := 58) (A := (((nd ns n).1 : Nat) : Int)) (B := (8 : Int)) (pc2 := 40) d_Sp_isBracketed_37 rfl rfl (nI_toInt (by omega)) (nI_toInt (by omega)) (fun c8 => ?_) (fun c8 => ?_)
      · refine r_iload_n (pc2 := 59) d_Sp_isBracketed_58 rfl rfl ?_
        refine r_iconst (v := nI 3) (pc2 := 60) d_Sp_isBracketed_59 rfl (by decide) ?_
        refine q_icmp_eq (tgt := 75) (A := (((nd ns n).1 : Nat) : Int)) (B := (3 : Int)) (pc2 := 63) d_Sp_isBracketed_60 rfl rfl (nI_toInt (by omega)) (nI_toInt (by omega)) (fun c9 => ?_) (fun c9 => ?_)
        · refine r_iconst (v := nI 1) (pc2 := 76) d_Sp_isBracketed_75 rfl (by decide) ?_
          refine r_goto (tgt := 80) d_Sp_isBracketed_76 rfl ?_
          refine Run.ret (some (.int (nI 1))) d_Sp_isBracketed_80 ⟨_, rfl, by decide⟩ ?_
          exact ⟨by rw [bI_t (by unfold b2 k7 k8; (repeat' split) <;> first | (simp only [decide_eq_true_eq]; omega) | exact Bool.false_ne_true | (exfalso; omega))]; rfl, rfl⟩
        · refine r_iload_n (pc2 := 64) d_Sp_isBracketed_63 rfl rfl ?_
          refine r_iconst (v := nI 2) (pc2 := 65) d_Sp_isBracketed_64 rfl (by decide) ?_
          refine q_icmp_eq (tgt := 75) (A := (2 : Int)) (B := (2 : Int)) (pc2 := 68) d_Sp_isBracketed_65 rfl rfl (nI_toInt (by omega)) (nI_toInt (by omega)) (fun c10 => ?_) (fun c10 => ?_)
          rotate_left
          · exfalso; omega
          refine r_iconst (v := nI 1) (pc2 := 76) d_Sp_isBracketed_75 rfl (by decide) ?_
          refine r_goto (tgt := 80) d_Sp_isBracketed_76 rfl ?_
          refine Run.ret (some (.int (nI 1))) d_Sp_isBracketed_80 ⟨_, rfl, by decide⟩ ?_
          exact ⟨by rw [bI_t (by unfold b2 k7 k8; (repeat' split) <;> first | (simp only [decide_eq_true_eq]; omega) | exact Bool.false_ne_true | (exfalso; omega))]; rfl, rfl⟩
      · refine r_iload_n (pc2 := 41) d_Sp_isBracketed_40 rfl rfl ?_
        refine r_iconst (v := nI 2) (pc2 := 42) d_Sp_isBracketed_41 rfl (by decide) ?_
        refine q_icmp_ne (tgt := 56) (A := (2 : Int)) (B := (2 : Int)) (pc2 := 45) d_Sp_isBracketed_42 rfl rfl (nI_toInt (by omega)) (nI_toInt (by omega)) (fun c11 => ?_) (fun c11 => ?_)
        · exfalso; omega
        refine r_iload (pc2 := 47) d_Sp_isBracketed_45 rfl rfl ?_
        refine r_bipush (v := nI 8) (pc2 := 49) d_Sp_isBracketed_47 rfl (by decide) ?_
        refine q_icmp_ne (tgt := 56) (A := (((nd ns ((nd ns n).2.2.1)).1 : Nat) : Int)) (B := (8 : Int)) (pc2 := 52) d_Sp_isBracketed_49 rfl rfl (nI_toInt (by omega)) (nI_toInt (by omega)) (fun c12 => ?_) (fun c12 => ?_)
        · refine r_iconst (v := nI 0) (pc2 := 57) d_Sp_isBracketed_56 rfl (by decide) ?_
          refine Run.ret (some (.int (nI 0))) d_Sp_isBracketed_57 ⟨_, rfl, by decide⟩ ?_
          exact ⟨by rw [bI_f (by unfold b2 k7 k8; (repeat' split) <;> first | (simp only [decide_eq_true_eq]; omega) | exact Bool.false_ne_true | (exfalso; omega))]; rfl, rfl⟩
        · refine r_iconst (v := nI 1) (pc2 := 53) d_Sp_isBracketed_52 rfl (by decide) ?_
          refine r_goto (tgt := 57) d_Sp_isBracketed_53 rfl ?_
          refine Run.ret (some (.int (nI 1))) d_Sp_isBracketed_57 ⟨_, rfl, by decide⟩ ?_
          exact ⟨by rw [bI_t (by unfold b2 k7 k8; (repeat' split) <;> first | (simp only [decide_eq_true_eq]; omega) | exact Bool.false_ne_true | (exfalso; omega))]; rfl, rfl⟩
    · refine r_iconst (v := nI 0) (pc2 := 33) d_Sp_isBracketed_32 rfl (by decide) ?_
      refine Run.ret (some (.int (nI 0))) d_Sp_isBracketed_33 ⟨_, rfl, by decide⟩ ?_
      exact ⟨by rw [bI_f (by unfold b2 k7 k8; (repeat' split) <;> first | (simp only [decide_eq_true_eq]; omega) | exact Bool.false_ne_true | (exfalso; omega))]; rfl, rfl⟩
theorem k_Sp_partLength_2 {d : Nat} {J : Nat → Nat → Int32} {R : Nat → Nat → Option Nat} {L : Nat → Nat → Int64} {sh : Nat → Nat × Nat} {N : Nat} (hS : ShOK sh) (hR : RfOK R) {c n : Nat} {ns : List Nd} (hC : CoK c ns J R sh) (hv : NV ns) (hl : ns.length < 250) (hn : n < ns.length) (hk : 7 ≤ (nd ns n).1) (hL : J 741 (nd ns n).2.2.1 = nI (ln ns (nd ns n).2.2.1)) (hd : 3 ≤ d) : Me mi_Sp_partLength d 0 0 [.ref 740, .ref c, .int (nI n), .int (nI 2)] (J, R, L, sh, N) (some (.int (nI (ln ns (nd ns n).2.2.1 + plus2 (b2 ns n))))) (J, R, L, sh, N) := by
  obtain ⟨hv1, hv2, hv3, hv4, hv5⟩ := hv.nd hn
  have hx := hv2 (Or.inr hk)
  obtain ⟨hb1, -⟩ := hv.nd (show (nd ns n).2.1 < ns.length by omega)
  have hy := hv3 hk
  obtain ⟨hb2, -⟩ := hv.nd (show (nd ns n).2.2.1 < ns.length by omega)
  refine Mt.of pn_Sp (Nat.le_of_ble_eq_true rfl) ?_
  show Run mi_Sp_partLength d 0 0 0 [(0, .ref 740), (1, .ref c), (2, .int (nI n)), (3, .int (nI 2))] [] (J, R, L, sh, N) _
  refine r_aload_n (x := some c) (pc2 := 1) d_Sp_partLength_0 rfl rfl ?_
  refine r_iload_n (pc2 := 2) d_Sp_partLength_1 rfl rfl ?_
  refine r_iload_n (pc2 := 3) d_Sp_partLength_2 rfl rfl ?_
  refine q_callv (M2 := mi_Co_partOf) (pc2 := 6) d_Sp_partLength_3 rfl k_Sp_66 cm_Co_partOf cv_Co_partOf hC.1.1 (by decide) rfl rfl rfl (Nat.le_of_ble_eq_true rfl) (k_Co_partOf_2 (J := J) hS hR hC hv hl hn (by omega) (by omega)) (d2 := d - 1) (by omega) (Nat.le_of_eq (Nat.zero_add _)) (Nat.le_of_eq (Nat.zero_add _)) ?_
  refine r_istore (pc2 := 8) d_Sp_partLength_6 rfl (Nat.le_of_ble_eq_true rfl) ?_
  refine r_iload (pc2 := 10) d_Sp_partLength_8 rfl rfl ?_
  refine r_iconst (v := (-1 : Int32)) (pc2 := 11) d_Sp_partLength_10 rfl (by decide) ?_
  refine q_icmp_ne (tgt := 16) (A := (((nd ns n).2.2.1 : Nat) : Int)) (B := (-1 : Int)) (pc2 := 14) d_Sp_partLength_11 rfl rfl (nI_toInt (by omega)) (by decide) (fun c1 => ?_) (fun c1 => ?_)
  rotate_left
  · exfalso; omega
  refine r_aload_n (x := some 740) (pc2 := 17) d_Sp_partLength_16 rfl rfl ?_
  refine q_getR (x := some 741) (pc2 := 20) d_Sp_partLength_17 rfl k_Sp_9 rfl (sh_740 hS) (rf_740_0 hR) ?_
  refine r_iload (pc2 := 22) d_Sp_partLength_20 rfl rfl ?_
  refine q_iaload (q := (nd ns n).2.2.1) (x := nI (ln ns (nd ns n).2.2.1)) (pc2 := 23) d_Sp_partLength_22 rfl (sh_741 hS) (nI_toInt (by omega)) (by omega) hL ?_
  refine r_aload_n (x := some c) (pc2 := 24) d_Sp_partLength_23 rfl rfl ?_
  refine r_iload_n (pc2 := 25) d_Sp_partLength_24 rfl rfl ?_
  refine r_iload_n (pc2 := 26) d_Sp_partLength_25 rfl rfl ?_
  refine q_calls (M2 := mi_Sp_isBracketed) (pc2 := 29) d_Sp_partLength_26 rfl k_Sp_70 cm_Sp_isBracketed cs_Sp_isBracketed rfl rfl (Nat.le_of_ble_eq_true rfl) (k_Sp_isBracketed_2 (J := J) hS hR hC hv hl hn (by omega) (by omega)) (d2 := d - 1) (by omega) (Nat.le_of_eq (Nat.zero_add _)) (Nat.le_of_eq (Nat.zero_add _)) ?_
  refine q_bif_eq (tgt := 36) (pc2 := 32) d_Sp_partLength_29 rfl rfl (fun c2 => ?_) (fun c2 => ?_)
  · refine r_iconst (v := nI 0) (pc2 := 37) d_Sp_partLength_36 rfl (by decide) ?_
    refine q_iaddN (pc2 := 38) d_Sp_partLength_37 rfl ?_
    refine Run.ret (some (.int (nI (ln ns (nd ns n).2.2.1 + 0)))) d_Sp_partLength_38 ⟨_, rfl⟩ ?_
    exact ⟨by unfold plus2; rw [if_neg (by assumption)], rfl⟩
  · refine r_iconst (v := nI 2) (pc2 := 33) d_Sp_partLength_32 rfl (by decide) ?_
    refine r_goto (tgt := 37) d_Sp_partLength_33 rfl ?_
    refine q_iaddN (pc2 := 38) d_Sp_partLength_37 rfl ?_
    refine Run.ret (some (.int (nI (ln ns (nd ns n).2.2.1 + 2)))) d_Sp_partLength_38 ⟨_, rfl⟩ ?_
    exact ⟨by unfold plus2; rw [if_pos (by assumption)], rfl⟩
