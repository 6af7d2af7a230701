/-! THE REFERENCE: what shelves say -/
theorem c_M_isUnder {d : Nat} {h : HS} {a b : Int32} {A B : Int} (ha : a.toInt = A) (hb : b.toInt = B) (hd : 1 ≤ d) : Me mi_M_isUnder d 0 0 [.int a, .int b] h (some (.int (bI (isUnd A B)))) h := by
  subst ha; subst hb
  refine Mt.of pn_M (Nat.le_of_ble_eq_true rfl) ?_
  show Run mi_M_isUnder d 0 0 0 [(0, .int a), (1, .int b)] [] h _
  refine r_iload_n (pc2 := 1) d_M_isUnder_0 rfl rfl ?_
  refine q_if_eq (tgt := 39) (A := b.toInt) (pc2 := 4) d_M_isUnder_1 rfl rfl (rfl) (fun c1 => ?_) (fun c1 => ?_)
  · refine r_iconst (v := nI 1) (pc2 := 40) d_M_isUnder_39 rfl (by decide) ?_
    refine r_goto (tgt := 44) d_M_isUnder_40 rfl ?_
    refine Run.ret (some (.int (nI 1))) d_M_isUnder_44 ⟨_, rfl, by decide⟩ ?_
    exact ⟨by rw [bI_t (by unfold isUnd; omega)]; rfl, rfl⟩
  · refine r_iload_n (pc2 := 5) d_M_isUnder_4 rfl rfl ?_
    refine r_iload_n (pc2 := 6) d_M_isUnder_5 rfl rfl ?_
    refine q_icmp_eq (tgt := 39) (A := a.toInt) (B := b.toInt) (pc2 := 9) d_M_isUnder_6 rfl rfl (rfl) (rfl) (fun c2 => ?_) (fun c2 => ?_)
    · refine r_iconst (v := nI 1) (pc2 := 40) d_M_isUnder_39 rfl (by decide) ?_
      refine r_goto (tgt := 44) d_M_isUnder_40 rfl ?_
      refine Run.ret (some (.int (nI 1))) d_M_isUnder_44 ⟨_, rfl, by decide⟩ ?_
      exact ⟨by rw [bI_t (by unfold isUnd; omega)]; rfl, rfl⟩
    · refine r_iload_n (pc2 := 10) d_M_isUnder_9 rfl rfl ?_
      refine r_iconst (v := nI 1) (pc2 := 11) d_M_isUnder_10 rfl (by decide) ?_
      refine q_icmp_ne (tgt := 28) (A := b.toInt) (B := (1 : Int)) (pc2 := 14) d_M_isUnder_11 rfl rfl (rfl) (nI_toInt (by omega)) (fun c3 => ?_) (fun c3 => ?_)
      · refine r_iload_n (pc2 := 29) d_M_isUnder_28 rfl rfl ?_
        refine r_iconst (v := nI 2) (pc2 := 30) d_M_isUnder_29 rfl (by decide) ?_
        refine q_icmp_ne (tgt := 43) (A := b.toInt) (B := (2 : Int)) (pc2 := 33) d_M_isUnder_30 rfl rfl (rfl) (nI_toInt (by omega)) (fun c4 => ?_) (fun c4 => ?_)
        · refine r_iconst (v := nI 0) (pc2 := 44) d_M_isUnder_43 rfl (by decide) ?_
          refine Run.ret (some (.int (nI 0))) d_M_isUnder_44 ⟨_, rfl, by decide⟩ ?_
          exact ⟨by rw [bI_f (by unfold isUnd; omega)]; rfl, rfl⟩
        · refine r_iload_n (pc2 := 34) d_M_isUnder_33 rfl rfl ?_
          refine r_bipush (v := nI 7) (pc2 := 36) d_M_isUnder_34 rfl (by decide) ?_
          refine q_icmp_lt (tgt := 43) (A := a.toInt) (B := (7 : Int)) (pc2 := 39) d_M_isUnder_36 rfl rfl (rfl) (nI_toInt (by omega)) (fun c5 => ?_) (fun c5 => ?_)
          · refine r_iconst (v := nI 0) (pc2 := 44) d_M_isUnder_43 rfl (by decide) ?_
            refine Run.ret (some (.int (nI 0))) d_M_isUnder_44 ⟨_, rfl, by decide⟩ ?_
            exact ⟨by rw [bI_f (by unfold isUnd; omega)]; rfl, rfl⟩
          · refine r_iconst (v := nI 1) (pc2 := 40) d_M_isUnder_39 rfl (by decide) ?_
            refine r_goto (tgt := 44) d_M_isUnder_40 rfl ?_
            refine Run.ret (some (.int (nI 1))) d_M_isUnder_44 ⟨_, rfl, by decide⟩ ?_
            exact ⟨by rw [bI_t (by unfold isUnd; omega)]; rfl, rfl⟩
      · refine r_iload_n (pc2 := 15) d_M_isUnder_14 rfl rfl ?_
        refine r_i2l (pc2 := 16) d_M_isUnder_15 rfl ?_
        refine r_ldc2 (pc2 := 19) d_M_isUnder_16 rfl k_M_291 ?_
        refine r_ldc2 (pc2 := 22) d_M_isUnder_19 rfl k_M_299 ?_
        refine q_calls (M2 := mi_M_in) (pc2 := 25) d_M_isUnder_22 rfl k_M_68 cm_M_in cs_M_in rfl rfl (Nat.le_of_ble_eq_true rfl) (c_M_in (A := a.toInt) (B := (4 : Int)) (C := (6 : Int)) (toInt64_toInt (rfl)) (by decide) (by decide)) (d2 := d - 1) (by omega) (Nat.le_of_eq (Nat.zero_add _)) (Nat.le_of_eq (Nat.zero_add _)) ?_
        refine q_bif_ne (tgt := 39) (pc2 := 28) d_M_isUnder_25 rfl rfl (fun c6 => ?_) (fun c6 => ?_)
        · refine r_iconst (v := nI 1) (pc2 := 40) d_M_isUnder_39 rfl (by decide) ?_
          refine r_goto (tgt := 44) d_M_isUnder_40 rfl ?_
          refine Run.ret (some (.int (nI 1))) d_M_isUnder_44 ⟨_, rfl, by decide⟩ ?_
          exact ⟨by rw [bI_t (by unfold isUnd; omega)]; rfl, rfl⟩
        · refine r_iload_n (pc2 := 29) d_M_isUnder_28 rfl rfl ?_
          refine r_iconst (v := nI 2) (pc2 := 30) d_M_isUnder_29 rfl (by decide) ?_
          refine q_icmp_ne (tgt := 43) (A := b.toInt) (B := (2 : Int)) (pc2 := 33) d_M_isUnder_30 rfl rfl (rfl) (nI_toInt (by omega)) (fun c7 => ?_) (fun c7 => ?_)
          · refine r_iconst (v := nI 0) (pc2 := 44) d_M_isUnder_43 rfl (by decide) ?_
            refine Run.ret (some (.int (nI 0))) d_M_isUnder_44 ⟨_, rfl, by decide⟩ ?_
            exact ⟨by rw [bI_f (by unfold isUnd; omega)]; rfl, rfl⟩
          · refine r_iload_n (pc2 := 34) d_M_isUnder_33 rfl rfl ?_
            refine r_bipush (v := nI 7) (pc2 := 36) d_M_isUnder_34 rfl (by decide) ?_
            refine q_icmp_lt (tgt := 43) (A := a.toInt) (B := (7 : Int)) (pc2 := 39) d_M_isUnder_36 rfl rfl (rfl) (nI_toInt (by omega)) (fun c8 => ?_) (fun c8 => ?_)
            · refine r_iconst (v := nI 0) (pc2 := 44) d_M_isUnder_43 rfl (by decide) ?_
              refine Run.ret (some (.int (nI 0))) d_M_isUnder_44 ⟨_, rfl, by decide⟩ ?_
              exact ⟨by rw [bI_f (by unfold isUnd; omega)]; rfl, rfl⟩
            · refine r_iconst (v := nI 1) (pc2 := 40) d_M_isUnder_39 rfl (by decide) ?_
              refine r_goto (tgt := 44) d_M_isUnder_40 rfl ?_
              refine Run.ret (some (.int (nI 1))) d_M_isUnder_44 ⟨_, rfl, by decide⟩ ?_
              exact ⟨by rw [bI_t (by unfold isUnd; omega)]; rfl, rfl⟩
theorem l_M_soTogether_0 {d : Nat} {I : Nat → Nat → Int32} {R : Nat → Nat → Option Nat} {L : Nat → Nat → Int64} {sh : Nat → Nat × Nat} {N : Nat} (hS : ShOK sh) (hR : RfOK R) {kA fA cA gA nk nt : Nat} (hT : TRf R sh kA fA cA gA nk) (hTn : TNe kA fA cA gA) (hV : TV (I kA) (I fA) (I cA) nt) (hnt : nt ≤ nk) (hnk : nk ≤ 1000000) {nP nF : Nat} (hW : WFA (I 762) nP nF nt) {a c : Nat} (ha : a < nt) (hc : c < nt) {P : Nat → Bool} (hP : ∀ p, P p = (trP (TRE I kA fA cA gA) (I 762) a p ^^ trP (TRE I kA fA cA gA) (I 762) c p)) {Q : Option Value → HS → Prop} (hq : Q (some (.int (nI (cnt P nP)))) (I, R, L, sh, N)) (hd : nt + 4 ≤ d) : ∀ (n_ : Nat) (i : Nat), nP - i = n_ → (i ≤ nP) → Run mi_M_soTogether d 0 0 6 [(0, .ref 761), (1, .int (nI a)), (2, .int (nI c)), (3, .int (nI 0)), (4, .int (nI (cnt P i))), (5, .int (nI i))] [] (I, R, L, sh, N) Q := by
  intro n_
  induction n_ using Nat.strongRecOn with | ind n_ ih_ => ?_
  intro i hn_ v0_
  obtain ⟨hPc, hP24, hFc, hF12, hWF, hWP⟩ := id hW
  refine r_iload (pc2 := 8) d_M_soTogether_6 rfl rfl ?_
  refine r_aload_n (x := some 761) (pc2 := 9) d_M_soTogether_8 rfl rfl ?_
  refine q_getR (x := some 762) (pc2 := 12) d_M_soTogether_9 rfl k_M_9 rfl (sh_761 hS) (rf_761_0 hR) ?_
  refine r_iconst (v := nI 0) (pc2 := 13) d_M_soTogether_12 rfl (by decide) ?_
  refine q_iaload (q := 0) (x := nI nP) (pc2 := 14) d_M_soTogether_13 rfl (sh_762 hS) (nI_toInt (by omega)) (by omega) hPc ?_
  refine q_icmp_ge (tgt := 75) (A := ((i : Nat) : Int)) (B := ((nP : Nat) : Int)) (pc2 := 17) d_M_soTogether_14 rfl rfl (nI_toInt (by omega)) (nI_toInt (by omega)) (fun c1 => ?_) (fun c1 => ?_)
  · refine r_iload (pc2 := 77) d_M_soTogether_75 rfl rfl ?_
    refine Run.ret (some (.int (nI (cnt P i)))) d_M_soTogether_77 ⟨_, rfl⟩ ?_
    rw [show i = nP by omega]; exact hq
  · refine r_aload_n (x := some 761) (pc2 := 18) d_M_soTogether_17 rfl rfl ?_
    refine r_iload_n (pc2 := 19) d_M_soTogether_18 rfl rfl ?_
    refine r_iload (pc2 := 21) d_M_soTogether_19 rfl rfl ?_
    refine q_callv (M2 := mi_M_isSo) (pc2 := 24) d_M_soTogether_21 rfl k_M_100 cm_M_isSo cv_M_isSo (sh_761 hS) (by decide) rfl rfl rfl (Nat.le_of_ble_eq_true rfl) (c_M_isSoJ (I := I) (J := I) hS hR hT hV hnt hnk rfl rfl rfl rfl rfl (p := i) (t := a) (by omega) (hWP i (by omega)).1.1 (hWP i (by omega)).1.2 (by omega) (by omega)) (d2 := d - 1) (by omega) (Nat.le_of_eq (Nat.zero_add _)) (Nat.le_of_eq (Nat.zero_add _)) ?_
    refine r_istore (pc2 := 26) d_M_soTogether_24 rfl (Nat.le_of_ble_eq_true rfl) ?_
    refine r_aload_n (x := some 761) (pc2 := 27) d_M_soTogether_26 rfl rfl ?_
    refine r_iload_n (pc2 := 28) d_M_soTogether_27 rfl rfl ?_
    refine r_iload (pc2 := 30) d_M_soTogether_28 rfl rfl ?_
    refine q_callv (M2 := mi_M_isSo) (pc2 := 33) d_M_soTogether_30 rfl k_M_100 cm_M_isSo cv_M_isSo (sh_761 hS) (by decide) rfl rfl rfl (Nat.le_of_ble_eq_true rfl) (c_M_isSoJ (I := I) (J := I) hS hR hT hV hnt hnk rfl rfl rfl rfl rfl (p := i) (t := c) (by omega) (hWP i (by omega)).1.1 (hWP i (by omega)).1.2 (by omega) (by omega)) (d2 := d - 1) (by omega) (Nat.le_of_eq (Nat.zero_add _)) (Nat.le_of_eq (Nat.zero_add _)) ?_
    refine r_istore (pc2 := 35) d_M_soTogether_33 rfl (Nat.le_of_ble_eq_true rfl) ?_
    refine r_iload (pc2 := 37) d_M_soTogether_35 rfl rfl ?_
    refine r_iload_n (pc2 := 38) d_M_soTogether_37 rfl rfl ?_
    refine q_if_eq (tgt := 54) (A := (0 : Int)) (pc2 := 41) d_M_soTogether_38 rfl rfl (nI_toInt (by omega)) (fun c2 => ?_) (fun c2 => ?_)
    rotate_left
    · exfalso; omega
    refine r_iload (pc2 := 56) d_M_soTogether_54 rfl rfl ?_
    refine r_iload (pc2 := 58) d_M_soTogether_56 rfl rfl ?_
    refine q_icmp_eq (tgt := 65) (A := (bI (trt (I kA) (I fA) (I cA) (I gA) (I 762 (6 + 2 * i)) (I 762 (6 + 2 * i + 1)).toInt.toNat a = true)).toInt) (B := (bI (trt (I kA) (I fA) (I cA) (I gA) (I 762 (6 + 2 * i)) (I 762 (6 + 2 * i + 1)).toInt.toNat c = true)).toInt) (pc2 := 61) d_M_soTogether_58 rfl rfl (rfl) (rfl) (fun c3 => ?_) (fun c3 => ?_)
    · refine r_iconst (v := nI 0) (pc2 := 66) d_M_soTogether_65 rfl (by decide) ?_
      refine q_iaddN (pc2 := 67) d_M_soTogether_66 rfl ?_
      refine q_top (y := nI (cnt P (i + 1))) (by rw [cnt_s, if_neg (by rw [hP]; unfold trP TRE; revert c3; generalize trt (I kA) (I fA) (I cA) (I gA) (I 762 (6 + 2 * i)) (I 762 (6 + 2 * i + 1)).toInt.toNat a = x1; generalize trt (I kA) (I fA) (I cA) (I gA) (I 762 (6 + 2 * i)) (I 762 (6 + 2 * i + 1)).toInt.toNat c = x2; cases x1 <;> cases x2 <;> decide)]) ?_
      refine r_istore (pc2 := 69) d_M_soTogether_67 rfl (Nat.le_of_ble_eq_true rfl) ?_
      refine q_iinc (b := 1) (pc2 := 72) d_M_soTogether_69 rfl rfl (by decide) (Nat.le_of_ble_eq_true rfl) ?_
      refine r_goto (tgt := 6) d_M_soTogether_72 rfl ?_
      refine Run.sub (l2 := [(0, .ref 761), (1, .int (nI a)), (2, .int (nI c)), (3, .int (nI 0)), (4, .int (nI (cnt P (i + 1)))), (5, .int (nI (i + 1)))]) ⟨rfl, rfl, rfl, rfl, rfl, rfl, trivial⟩ ?_
      exact ih_ (nP - (i + 1)) (by omega) (i + 1) rfl (by omega)
    · refine r_iconst (v := nI 1) (pc2 := 62) d_M_soTogether_61 rfl (by decide) ?_
      refine r_goto (tgt := 66) d_M_soTogether_62 rfl ?_
      refine q_iaddN (pc2 := 67) d_M_soTogether_66 rfl ?_
      refine q_top (y := nI (cnt P (i + 1))) (by rw [cnt_s, if_pos (by rw [hP]; unfold trP TRE; revert c3; generalize trt (I kA) (I fA) (I cA) (I gA) (I 762 (6 + 2 * i)) (I 762 (6 + 2 * i + 1)).toInt.toNat a = x1; generalize trt (I kA) (I fA) (I cA) (I gA) (I 762 (6 + 2 * i)) (I 762 (6 + 2 * i + 1)).toInt.toNat c = x2; cases x1 <;> cases x2 <;> decide)]) ?_
      refine r_istore (pc2 := 69) d_M_soTogether_67 rfl (Nat.le_of_ble_eq_true rfl) ?_
      refine q_iinc (b := 1) (pc2 := 72) d_M_soTogether_69 rfl rfl (by decide) (Nat.le_of_ble_eq_true rfl) ?_
      refine r_goto (tgt := 6) d_M_soTogether_72 rfl ?_
      refine Run.sub (l2 := [(0, .ref 761), (1, .int (nI a)), (2, .int (nI c)), (3, .int (nI 0)), (4, .int (nI (cnt P (i + 1)))), (5, .int (nI (i + 1)))]) ⟨rfl, rfl, rfl, rfl, rfl, rfl, trivial⟩ ?_
      exact ih_ (nP - (i + 1)) (by omega) (i + 1) rfl (by omega)
theorem c_M_soTogether_0 {d : Nat} {I : Nat → Nat → Int32} {R : Nat → Nat → Option Nat} {L : Nat → Nat → Int64} {sh : Nat → Nat × Nat} {N : Nat} (hS : ShOK sh) (hR : RfOK R) {kA fA cA gA nk nt : Nat} (hT : TRf R sh kA fA cA gA nk) (hTn : TNe kA fA cA gA) (hV : TV (I kA) (I fA) (I cA) nt) (hnt : nt ≤ nk) (hnk : nk ≤ 1000000) {nP nF : Nat} (hW : WFA (I 762) nP nF nt) {a c : Nat} (ha : a < nt) (hc : c < nt) (hd : nt + 4 ≤ d) : Me mi_M_soTogether d 0 0 [.ref 761, .int (nI a), .int (nI c), .int (nI 0)] (I, R, L, sh, N) (some (.int (nI (cnt (fun p => (trP (TRE I kA fA cA gA) (I 762) a p ^^ trP (TRE I kA fA cA gA) (I 762) c p)) nP)))) (I, R, L, sh, N) := by
  refine Mt.of pn_M (Nat.le_of_ble_eq_true rfl) ?_
  show Run mi_M_soTogether d 0 0 0 [(0, .ref 761), (1, .int (nI a)), (2, .int (nI c)), (3, .int (nI 0))] [] (I, R, L, sh, N) _
  refine r_iconst (v := nI 0) (pc2 := 1) d_M_soTogether_0 rfl (by decide) ?_
  refine r_istore (pc2 := 3) d_M_soTogether_1 rfl (Nat.le_of_ble_eq_true rfl) ?_
  refine r_iconst (v := nI 0) (pc2 := 4) d_M_soTogether_3 rfl (by decide) ?_
  refine r_istore (pc2 := 6) d_M_soTogether_4 rfl (Nat.le_of_ble_eq_true rfl) ?_
  refine Run.sub (l2 := [(0, .ref 761), (1, .int (nI a)), (2, .int (nI c)), (3, .int (nI 0)), (4, .int (nI 0)), (5, .int (nI 0))]) ⟨rfl, rfl, rfl, rfl, rfl, rfl, trivial⟩ ?_
  exact l_M_soTogether_0 hS hR hT hTn hV hnt hnk hW ha hc (P := fun p => (trP (TRE I kA fA cA gA) (I 762) a p ^^ trP (TRE I kA fA cA gA) (I 762) c p)) (fun p => rfl) ⟨rfl, rfl⟩ hd _ 0 rfl (Nat.zero_le _)
theorem l_M_soTogether_1 {d : Nat} {I : Nat → Nat → Int32} {R : Nat → Nat → Option Nat} {L : Nat → Nat → Int64} {sh : Nat → Nat × Nat} {N : Nat} (hS : ShOK sh) (hR : RfOK R) {kA fA cA gA nk nt : Nat} (hT : TRf R sh kA fA cA gA nk) (hTn : TNe kA fA cA gA) (hV : TV (I kA) (I fA) (I cA) nt) (hnt : nt ≤ nk) (hnk : nk ≤ 1000000) {nP nF : Nat} (hW : WFA (I 762) nP nF nt) {a c : Nat} (ha : a < nt) (hc : c < nt) {P : Nat → Bool} (hP : ∀ p, P p = (trP (TRE I kA fA cA gA) (I 762) a p && trP (TRE I kA fA cA gA) (I 762) c p)) {Q : Option Value → HS → Prop} (hq : Q (some (.int (nI (cnt P nP)))) (I, R, L, sh, N)) (hd : nt + 4 ≤ d) : ∀ (n_ : Nat) (i : Nat), nP - i = n_ → (i ≤ nP) → Run mi_M_soTogether d 0 0 6 [(0, .ref 761), (1, .int (nI a)), (2, .int (nI c)), (3, .int (nI 1)), (4, .int (nI (cnt P i))), (5, .int (nI i))] [] (I, R, L, sh, N) Q := by
  intro n_
  induction n_ using Nat.strongRecOn with | ind n_ ih_ => ?_
  intro i hn_ v0_
  obtain ⟨hPc, hP24, hFc, hF12, hWF, hWP⟩ := id hW
  refine r_iload (pc2 := 8) d_M_soTogether_6 rfl rfl ?_
  refine r_aload_n (x := some 761) (pc2 := 9) d_M_soTogether_8 rfl rfl ?_
  refine q_getR (x := some 762) (pc2 := 12) d_M_soTogether_9 rfl k_M_9 rfl (sh_761 hS) (rf_761_0 hR) ?_
  refine r_iconst (v := nI 0) (pc2 := 13) d_M_soTogether_12 rfl (by decide) ?_
  refine q_iaload (q := 0) (x := nI nP) (pc2 := 14) d_M_soTogether_13 rfl (sh_762 hS) (nI_toInt (by omega)) (by omega) hPc ?_
  refine q_icmp_ge (tgt := 75) (A := ((i : Nat) : Int)) (B := ((nP : Nat) : Int)) (pc2 := 17) d_M_soTogether_14 rfl rfl (nI_toInt (by omega)) (nI_toInt (by omega)) (fun c1 => ?_) (fun c1 => ?_)
  · refine r_iload (pc2 := 77) d_M_soTogether_75 rfl rfl ?_
    refine Run.ret (some (.int (nI (cnt P i)))) d_M_soTogether_77 ⟨_, rfl⟩ ?_
    rw [show i = nP by omega]; exact hq
  · refine r_aload_n (x := some 761) (pc2 := 18) d_M_soTogether_17 rfl rfl ?_
    refine r_iload_n (pc2 := 19) d_M_soTogether_18 rfl rfl ?_
    refine r_iload (pc2 := 21) d_M_soTogether_19 rfl rfl ?_
    refine q_callv (M2 := mi_M_isSo) (pc2 := 24) d_M_soTogether_21 rfl k_M_100 cm_M_isSo cv_M_isSo (sh_761 hS) (by decide) rfl rfl rfl (Nat.le_of_ble_eq_true rfl) (c_M_isSoJ (I := I) (J := I) hS hR hT hV hnt hnk rfl rfl rfl rfl rfl (p := i) (t := a) (by omega) (hWP i (by omega)).1.1 (hWP i (by omega)).1.2 (by omega) (by omega)) (d2 := d - 1) (by omega) (Nat.le_of_eq (Nat.zero_add _)) (Nat.le_of_eq (Nat.zero_add _)) ?_
    refine r_istore (pc2 := 26) d_M_soTogether_24 rfl (Nat.le_of_ble_eq_true rfl) ?_
    refine r_aload_n (x := some 761) (pc2 := 27) d_M_soTogether_26 rfl rfl ?_
    refine r_iload_n (pc2 := 28) d_M_soTogether_27 rfl rfl ?_
    refine r_iload (pc2 := 30) d_M_soTogether_28 rfl rfl ?_
    refine q_callv (M2 := mi_M_isSo) (pc2 := 33) d_M_soTogether_30 rfl k_M_100 cm_M_isSo cv_M_isSo (sh_761 hS) (by decide) rfl rfl rfl (Nat.le_of_ble_eq_true rfl) (c_M_isSoJ (I := I) (J := I) hS hR hT hV hnt hnk rfl rfl rfl rfl rfl (p := i) (t := c) (by omega) (hWP i (by omega)).1.1 (hWP i (by omega)).1.2 (by omega) (by omega)) (d2 := d - 1) (by omega) (Nat.le_of_eq (Nat.zero_add _)) (Nat.le_of_eq (Nat.zero_add _)) ?_
    refine r_istore (pc2 := 35) d_M_soTogether_33 rfl (Nat.le_of_ble_eq_true rfl) ?_
    refine r_iload (pc2 := 37) d_M_soTogether_35 rfl rfl ?_
    refine r_iload_n (pc2 := 38) d_M_soTogether_37 rfl rfl ?_
    refine q_if_eq (tgt := 54) (A := (1 : Int)) (pc2 := 41) d_M_soTogether_38 rfl rfl (nI_toInt (by omega)) (fun c2 => ?_) (fun c2 => ?_)
    · exfalso; omega
    refine r_iload (pc2 := 43) d_M_soTogether_41 rfl rfl ?_
    refine q_bif_eq (tgt := 65) (pc2 := 46) d_M_soTogether_43 rfl rfl (fun c3 => ?_) (fun c3 => ?_)
    · refine r_iconst (v := nI 0) (pc2 := 66) d_M_soTogether_65 rfl (by decide) ?_
      refine q_iaddN (pc2 := 67) d_M_soTogether_66 rfl ?_
      refine q_top (y := nI (cnt P (i + 1))) (by rw [cnt_s, if_neg (by rw [hP]; unfold trP TRE; revert c3; generalize trt (I kA) (I fA) (I cA) (I gA) (I 762 (6 + 2 * i)) (I 762 (6 + 2 * i + 1)).toInt.toNat a = x1; generalize trt (I kA) (I fA) (I cA) (I gA) (I 762 (6 + 2 * i)) (I 762 (6 + 2 * i + 1)).toInt.toNat c = x2; cases x1 <;> cases x2 <;> decide)]) ?_
      refine r_istore (pc2 := 69) d_M_soTogether_67 rfl (Nat.le_of_ble_eq_true rfl) ?_
      refine q_iinc (b := 1) (pc2 := 72) d_M_soTogether_69 rfl rfl (by decide) (Nat.le_of_ble_eq_true rfl) ?_
      refine r_goto (tgt := 6) d_M_soTogether_72 rfl ?_
      refine Run.sub (l2 := [(0, .ref 761), (1, .int (nI a)), (2, .int (nI c)), (3, .int (nI 1)), (4, .int (nI (cnt P (i + 1)))), (5, .int (nI (i + 1)))]) ⟨rfl, rfl, rfl, rfl, rfl, rfl, trivial⟩ ?_
      exact ih_ (nP - (i + 1)) (by omega) (i + 1) rfl (by omega)
    · refine r_iload (pc2 := 48) d_M_soTogether_46 rfl rfl ?_
      refine q_bif_eq (tgt := 65) (pc2 := 51) d_M_soTogether_48 rfl rfl (fun c4 => ?_) (fun c4 => ?_)
      · refine r_iconst (v := nI 0) (pc2 := 66) d_M_soTogether_65 rfl (by decide) ?_
        refine q_iaddN (pc2 := 67) d_M_soTogether_66 rfl ?_
        refine q_top (y := nI (cnt P (i + 1))) (by rw [cnt_s, if_neg (by rw [hP]; unfold trP TRE; revert c3 c4; generalize trt (I kA) (I fA) (I cA) (I gA) (I 762 (6 + 2 * i)) (I 762 (6 + 2 * i + 1)).toInt.toNat a = x1; generalize trt (I kA) (I fA) (I cA) (I gA) (I 762 (6 + 2 * i)) (I 762 (6 + 2 * i + 1)).toInt.toNat c = x2; cases x1 <;> cases x2 <;> decide)]) ?_
        refine r_istore (pc2 := 69) d_M_soTogether_67 rfl (Nat.le_of_ble_eq_true rfl) ?_
        refine q_iinc (b := 1) (pc2 := 72) d_M_soTogether_69 rfl rfl (by decide) (Nat.le_of_ble_eq_true rfl) ?_
        refine r_goto (tgt := 6) d_M_soTogether_72 rfl ?_
        refine Run.sub (l2 := [(0, .ref 761), (1, .int (nI a)), (2, .int (nI c)), (3, .int (nI 1)), (4, .int (nI (cnt P (i + 1)))), (5, .int (nI (i + 1)))]) ⟨rfl, rfl, rfl, rfl, rfl, rfl, trivial⟩ ?_
        exact ih_ (nP - (i + 1)) (by omega) (i + 1) rfl (by omega)
      · refine r_goto (tgt := 61) d_M_soTogether_51 rfl ?_
        refine r_iconst (v := nI 1) (pc2 := 62) d_M_soTogether_61 rfl (by decide) ?_
        refine r_goto (tgt := 66) d_M_soTogether_62 rfl ?_
        refine q_iaddN (pc2 := 67) d_M_soTogether_66 rfl ?_
        refine q_top (y := nI (cnt P (i + 1))) (by rw [cnt_s, if_pos (by rw [hP]; unfold trP TRE; revert c3 c4; generalize trt (I kA) (I fA) (I cA) (I gA) (I 762 (6 + 2 * i)) (I 762 (6 + 2 * i + 1)).toInt.toNat a = x1; generalize trt (I kA) (I fA) (I cA) (I gA) (I 762 (6 + 2 * i)) (I 762 (6 + 2 * i + 1)).toInt.toNat c = x2; cases x1 <;> cases x2 <;> decide)]) ?_
        refine r_istore (pc2 := 69) d_M_soTogether_67 rfl (Nat.le_of_ble_eq_true rfl) ?_
        refine q_iinc (b := 1) (pc2 := 72) d_M_soTogether_69 rfl rfl (by decide) (Nat.le_of_ble_eq_true rfl) ?_
        refine r_goto (tgt := 6) d_M_soTogether_72 rfl ?_
        refine Run.sub (l2 := [(0, .ref 761), (1, .int (nI a)), (2, .int (nI c)), (3, .int (nI 1)), (4, .int (nI (cnt P (i + 1)))), (5, .int (nI (i + 1)))]) ⟨rfl, rfl, rfl, rfl, rfl, rfl, trivial⟩ ?_
        exact ih_ (nP - (i + 1)) (by omega) (i + 1) rfl (by omega)
theorem c_M_soTogether_1 {d : Nat} {I : Nat → Nat → Int32} {R : Nat → Nat → Option Nat} {L : Nat → Nat → Int64} {sh : Nat → Nat × Nat} {N : Nat} (hS : ShOK sh) (hR : RfOK R) {kA fA cA gA nk nt : Nat} (hT : TRf R sh kA fA cA gA nk) (hTn : TNe kA fA cA gA) (hV : TV (I kA) (I fA) (I cA) nt) (hnt : nt ≤ nk) (hnk : nk ≤ 1000000) {nP nF : Nat} (hW : WFA (I 762) nP nF nt) {a c : Nat} (ha : a < nt) (hc : c < nt) (hd : nt + 4 ≤ d) : Me mi_M_soTogether d 0 0 [.ref 761, .int (nI a), .int (nI c), .int (nI 1)] (I, R, L, sh, N) (some (.int (nI (cnt (fun p => (trP (TRE I kA fA cA gA) (I 762) a p && trP (TRE I kA fA cA gA) (I 762) c p)) nP)))) (I, R, L, sh, N) := by
  refine Mt.of pn_M (Nat.le_of_ble_eq_true rfl) ?_
  show Run mi_M_soTogether d 0 0 0 [(0, .ref 761), (1, .int (nI a)), (2, .int (nI c)), (3, .int (nI 1))] [] (I, R, L, sh, N) _
  refine r_iconst (v := nI 0) (pc2 := 1) d_M_soTogether_0 rfl (by decide) ?_
  refine r_istore (pc2 := 3) d_M_soTogether_1 rfl (Nat.le_of_ble_eq_true rfl) ?_
  refine r_iconst (v := nI 0) (pc2 := 4) d_M_soTogether_3 rfl (by decide) ?_
  refine r_istore (pc2 := 6) d_M_soTogether_4 rfl (Nat.le_of_ble_eq_true rfl) ?_
  refine Run.sub (l2 := [(0, .ref 761), (1, .int (nI a)), (2, .int (nI c)), (3, .int (nI 1)), (4, .int (nI 0)), (5, .int (nI 0))]) ⟨rfl, rfl, rfl, rfl, rfl, rfl, trivial⟩ ?_
  exact l_M_soTogether_1 hS hR hT hTn hV hnt hnk hW ha hc (P := fun p => (trP (TRE I kA fA cA gA) (I 762) a p && trP (TRE I kA fA cA gA) (I 762) c p)) (fun p => rfl) ⟨rfl, rfl⟩ hd _ 0 rfl (Nat.zero_le _)
theorem c_M_says {d : Nat} {I : Nat → Nat → Int32} {R : Nat → Nat → Option Nat} {L : Nat → Nat → Int64} {sh : Nat → Nat × Nat} {N : Nat} (hS : ShOK sh) (hR : RfOK R) {kA fA cA gA nk nt : Nat} (hT : TRf R sh kA fA cA gA nk) (hTn : TNe kA fA cA gA) (hV : TV (I kA) (I fA) (I cA) nt) (hnt : nt ≤ nk) (hnk : nk ≤ 1000000) {nP nF : Nat} (hW : WFA (I 762) nP nF nt) {rk : Nat → Nat} (hrk : RK (I 762) nF rk) {s : Int32} {k : Int32} (hWS : WSH I (I kA) nt) (hd : nt + 60 ≤ d) : Mt mi_M_says d 0 0 [.ref 761, .int s, .int k] (I, R, L, sh, N) (RQ I R L sh N (o_says (TRE I kA fA cA gA) (I kA) (I fA) (I cA) (I 762) nP (I 777) (I 780) s k)) := by
  obtain ⟨hPc, hP24, hFc, hF12, hWF, hWP⟩ := id hW
  obtain ⟨hn1, hn2, hn3, hn4⟩ := id hTn
  refine Mt.of pn_M (Nat.le_of_ble_eq_true rfl) ?_
  show Run mi_M_says d 0 0 0 [(0, .ref 761), (1, .int s), (2, .int k)] [] (I, R, L, sh, N) _
  refine r_iload_n (pc2 := 1) d_M_says_0 rfl rfl ?_
  refine q_calls (M2 := mi_M_isShelf) (pc2 := 4) d_M_says_1 rfl k_M_288 cm_M_isShelf cs_M_isShelf rfl rfl (Nat.le_of_ble_eq_true rfl) (c_M_isShelf (s := s) (by omega)) (d2 := d - 1) (by omega) (Nat.le_of_eq (Nat.zero_add _)) (Nat.le_of_eq (Nat.zero_add _)) ?_
  refine q_bif_eq (tgt := 19) (pc2 := 7) d_M_says_4 rfl rfl (fun c1 => ?_) (fun c1 => ?_)
  · refine r_aload_n (x := some 761) (pc2 := 20) d_M_says_19 rfl rfl ?_
    refine r_bipush (v := (-32 : Int32)) (pc2 := 22) d_M_says_20 rfl (by decide) ?_
    refine q_callv (M2 := mi_M_refused) (pc2 := 25) d_M_says_22 rfl k_M_106 cm_M_refused cv_M_refused (sh_761 hS) (by decide) rfl rfl rfl (Nat.le_of_ble_eq_true rfl) (c_M_refused_0 (I := I) hS hR) (d2 := d - 1) (by omega) (Nat.le_of_eq (Nat.zero_add _)) (Nat.le_of_eq (Nat.zero_add _)) ?_
    obtain ⟨I2, hI2⟩ : ∃ x, x = u2 I 765 0 (I 765 0 + nI 1) := ⟨_, rfl⟩
    rw [← hI2]
    refine Run.ret (some (.int ((-32 : Int32)))) d_M_says_25 ⟨_, rfl⟩ ?_
    exact RQ.bad 0 (by (unfold o_says); (try dsimp only); (try simp only [Int.toNat_natCast]); (repeat (first | rw [if_pos (by omega)] | rw [if_neg (by omega)])); (try rfl); (all_goals first | rfl | (congr 2 <;> omega) | ((repeat' split) <;> first | rfl | (exfalso; omega) | (congr 2 <;> omega) | skip)); (try rfl)) (by decide) FrS.rf hI2
  · obtain ⟨sN, hsN, gsN, rfl, esN⟩ := nat_of' (Int.le_refl 0) c1
    obtain ⟨hsosN, szsN, hszsN, hzlsN⟩ := hWS sN (by omega)
    have hztsN : (I 778 sN).toInt = (szsN : Int) := by rw [hszsN, nI_toInt (by omega)]
    refine r_iload_n (pc2 := 8) d_M_says_7 rfl rfl ?_
    refine r_i2l (pc2 := 9) d_M_says_8 rfl ?_
    refine r_lconst (v := (0 : Int64)) (pc2 := 10) d_M_says_9 rfl (by decide) ?_
    refine r_ldc2 (pc2 := 13) d_M_says_10 rfl k_M_301 ?_
    refine q_calls (M2 := mi_M_in) (pc2 := 16) d_M_says_13 rfl k_M_68 cm_M_in cs_M_in rfl rfl (Nat.le_of_ble_eq_true rfl) (c_M_in (A := k.toInt) (B := (0 : Int)) (C := (8 : Int)) (toInt64_toInt (rfl)) (by decide) (by decide)) (d2 := d - 1) (by omega) (Nat.le_of_eq (Nat.zero_add _)) (Nat.le_of_eq (Nat.zero_add _)) ?_
    refine q_bif_ne (tgt := 26) (pc2 := 19) d_M_says_16 rfl rfl (fun c3 => ?_) (fun c3 => ?_)
    · obtain ⟨kN, hkN, gkN, rfl, ekN⟩ := nat_of' (show (0 : Int) ≤ (0 : Int) by decide) c3
      refine r_aload_n (x := some 761) (pc2 := 27) d_M_says_26 rfl rfl ?_
      refine q_getR (x := some 777) (pc2 := 30) d_M_says_27 rfl k_M_55 rfl (sh_761 hS) (rf_761_27 hR) ?_
      refine r_iload_n (pc2 := 31) d_M_says_30 rfl rfl ?_
      refine q_iaload (q := sN) (x := I 777 sN) (pc2 := 32) d_M_says_31 rfl (sh_777 hS) (nI_toInt (by omega)) (by omega) rfl ?_
      refine r_i2l (pc2 := 33) d_M_says_32 rfl ?_
      refine r_lconst (v := (0 : Int64)) (pc2 := 34) d_M_says_33 rfl (by decide) ?_
      refine r_ldc2 (pc2 := 37) d_M_says_34 rfl k_M_291 ?_
      refine q_calls (M2 := mi_M_in) (pc2 := 40) d_M_says_37 rfl k_M_68 cm_M_in cs_M_in rfl rfl (Nat.le_of_ble_eq_true rfl) (c_M_in (A := (I 777 sN).toInt) (B := (0 : Int)) (C := (4 : Int)) (toInt64_toInt (rfl)) (by decide) (by decide)) (d2 := d - 1) (by omega) (Nat.le_of_eq (Nat.zero_add _)) (Nat.le_of_eq (Nat.zero_add _)) ?_
      refine q_bif_eq (tgt := 50) (pc2 := 43) d_M_says_40 rfl rfl (fun c4 => ?_) (fun c4 => ?_)
      · refine r_aload_n (x := some 761) (pc2 := 51) d_M_says_50 rfl rfl ?_
        refine q_getR (x := some 777) (pc2 := 54) d_M_says_51 rfl k_M_55 rfl (sh_761 hS) (rf_761_27 hR) ?_
        refine r_iload_n (pc2 := 55) d_M_says_54 rfl rfl ?_
        refine q_iaload (q := sN) (x := I 777 sN) (pc2 := 56) d_M_says_55 rfl (sh_777 hS) (nI_toInt (by omega)) (by omega) rfl ?_
        refine q_if_ge (tgt := 66) (A := (I 777 sN).toInt) (pc2 := 59) d_M_says_56 rfl rfl (rfl) (fun c5 => ?_) (fun c5 => ?_)
        · have hso2 : 10 ≤ (I 777 sN).toInt ∧ ∃ t : Nat, t < nt ∧ I 780 sN = nI t ∧ (I 777 sN).toInt = 10 + (I kA t).toInt := by
            rcases hsosN with q | q | q
            · omega
            · omega
            · exact q
          obtain ⟨ho10, t, htl, htt, hok⟩ := hso2
          have htt2 : (I 780 sN).toInt = (t : Int) := by rw [htt, nI_toInt (by omega)]
          obtain ⟨⟨k1a, k2a⟩, ⟨k3a, k4a⟩, k5a, k6a⟩ := hV t (by omega)
          obtain ⟨kda, kxa, kya⟩ : ∃ a : Nat, I kA t = nI a ∧ (I kA t).toInt = (a : Int) := ⟨(I kA t).toInt.toNat, eq_nI (by omega), by omega⟩
          obtain ⟨fta, fxa, fya⟩ : ∃ a : Nat, I fA t = nI a ∧ (I fA t).toInt = (a : Int) := ⟨(I fA t).toInt.toNat, eq_nI (by omega), by omega⟩
          refine r_aload_n (x := some 761) (pc2 := 67) d_M_says_66 rfl rfl ?_
          refine q_getR (x := some 780) (pc2 := 70) d_M_says_67 rfl k_M_65 rfl (sh_761 hS) (rf_761_30 hR) ?_
          refine r_iload_n (pc2 := 71) d_M_says_70 rfl rfl ?_
          refine q_iaload (q := sN) (x := nI t) (pc2 := 72) d_M_says_71 rfl (sh_780 hS) (nI_toInt (by omega)) (by omega) htt ?_
          refine r_istore_n (pc2 := 73) d_M_says_72 rfl rfl (Nat.le_of_ble_eq_true rfl) ?_
          refine r_aload_n (x := some 761) (pc2 := 74) d_M_says_73 rfl rfl ?_
          refine q_getR (x := some 777) (pc2 := 77) d_M_says_74 rfl k_M_55 rfl (sh_761 hS) (rf_761_27 hR) ?_
          refine r_iload_n (pc2 := 78) d_M_says_77 rfl rfl ?_
          refine q_iaload (q := sN) (x := I 777 sN) (pc2 := 79) d_M_says_78 rfl (sh_777 hS) (nI_toInt (by omega)) (by omega) rfl ?_
          refine r_bipush (v := nI 10) (pc2 := 81) d_M_says_79 rfl (by decide) ?_
          refine q_isubV (pc2 := 82) d_M_says_81 rfl (A := (I 777 sN).toInt) (B := (10 : Int)) (rfl) (nI_toInt (by omega)) (by constructor <;> omega) (fun y6 ey6 hy6 => ?_)
          refine r_iload_n (pc2 := 83) d_M_says_82 rfl rfl ?_
          refine q_calls (M2 := mi_M_isUnder) (pc2 := 86) d_M_says_83 rfl k_M_303 cm_M_isUnder cs_M_isUnder rfl rfl (Nat.le_of_ble_eq_true rfl) (c_M_isUnder (A := (I 777 sN).toInt - (10 : Int)) (B := ((kN : Nat) : Int)) (hy6) (nI_toInt (by omega)) (by omega)) (d2 := d - 1) (by omega) (Nat.le_of_eq (Nat.zero_add _)) (Nat.le_of_eq (Nat.zero_add _)) ?_
          refine q_bif_ne (tgt := 96) (pc2 := 89) d_M_says_86 rfl rfl (fun c7 => ?_) (fun c7 => ?_)
          · refine r_iload_n (pc2 := 97) d_M_says_96 rfl rfl ?_
            refine q_switch (tgt := 237) (A := ((kN : Nat) : Int)) d_M_says_97 rfl (nI_toInt (by omega)) (fun off t2 c8a c8b c8o c8t => ?_) (by decide) (by decide) (fun c8 => ?_)
            · have c8c : ((kN : Nat) : Int) = 0 ∨ ((kN : Nat) : Int) = 1 ∨ ((kN : Nat) : Int) = 2 ∨ ((kN : Nat) : Int) = 3 ∨ ((kN : Nat) : Int) = 4 ∨ ((kN : Nat) : Int) = 5 ∨ ((kN : Nat) : Int) = 6 ∨ ((kN : Nat) : Int) = 7 := by omega
              rcases c8c with c8e | c8e | c8e | c8e | c8e | c8e | c8e | c8e
              · obtain rfl : t2 = 144 := by
                  have hh : (some (47 : Int)) = some off := by rw [c8e] at c8o; exact c8o
                  cases hh; omega
                refine r_aload_n (x := some 761) (pc2 := 145) d_M_says_144 rfl rfl ?_
                refine r_iload_n (pc2 := 146) d_M_says_145 rfl rfl ?_
                refine q_callv (M2 := mi_M_soMany) (pc2 := 149) d_M_says_146 rfl k_M_306 cm_M_soMany cv_M_soMany (sh_761 hS) (by decide) rfl rfl rfl (Nat.le_of_ble_eq_true rfl) (c_M_soMany hS hR hT hTn hV hnt hnk hW (t := t) (by omega) (by omega)) (d2 := d - 1) (by omega) (Nat.le_of_eq (Nat.zero_add _)) (Nat.le_of_eq (Nat.zero_add _)) ?_
                refine q_top (y := nI (cnt (trP (TRE I kA fA cA gA) (I 762) t) nP)) rfl ?_
                refine Run.ret (some (.int (nI (cnt (trP (TRE I kA fA cA gA) (I 762) t) nP)))) d_M_says_149 ⟨_, rfl⟩ ?_
                exact RQ.val (by (try simp only [esN, hztsN, ekN, htt2, kya, fya, Int.toNat_natCast] at c1 c3 c4 c5 c7); (unfold o_says); (try dsimp only); (try simp only [esN, hztsN, ekN, htt2, kya, fya, Int.toNat_natCast]); (repeat (first | rw [if_pos (by omega)] | rw [if_neg (by omega)])); (try rfl); (all_goals first | rfl | (congr 2 <;> omega) | ((repeat' split) <;> first | rfl | (exfalso; omega) | (congr 2 <;> omega) | skip)); (try rfl)) FrS.rf
              · obtain rfl : t2 = 150 := by
                  have hh : (some (53 : Int)) = some off := by rw [c8e] at c8o; exact c8o
                  cases hh; omega
                refine r_aload_n (x := some 761) (pc2 := 151) d_M_says_150 rfl rfl ?_
                refine q_getR (x := some 777) (pc2 := 154) d_M_says_151 rfl k_M_55 rfl (sh_761 hS) (rf_761_27 hR) ?_
                refine r_iload_n (pc2 := 155) d_M_says_154 rfl rfl ?_
                refine q_iaload (q := sN) (x := I 777 sN) (pc2 := 156) d_M_says_155 rfl (sh_777 hS) (nI_toInt (by omega)) (by omega) rfl ?_
                refine r_bipush (v := nI 14) (pc2 := 158) d_M_says_156 rfl (by decide) ?_
                refine r_isub (pc2 := 159) d_M_says_158 rfl ?_
                refine Run.ret (some (.int ((I 777 sN) - (nI 14)))) d_M_says_159 ⟨_, rfl⟩ ?_
                exact RQ.val (by (try simp only [esN, hztsN, ekN, htt2, kya, fya, Int.toNat_natCast] at c1 c3 c4 c5 c7); (unfold o_says); (try dsimp only); (try simp only [esN, hztsN, ekN, htt2, kya, fya, Int.toNat_natCast]); (repeat (first | rw [if_pos (by omega)] | rw [if_neg (by omega)])); (try rfl); (all_goals first | rfl | (congr 2 <;> omega) | ((repeat' split) <;> first | rfl | (exfalso; omega) | (congr 2 <;> omega) | skip)); (try rfl)) FrS.rf
              · obtain rfl : t2 = 160 := by
                  have hh : (some (63 : Int)) = some off := by rw [c8e] at c8o; exact c8o
                  cases hh; omega
                obtain ⟨cta, cxa, cya⟩ : ∃ a : Nat, I cA t = nI a ∧ (I cA t).toInt = (a : Int) := ⟨(I cA t).toInt.toNat, eq_nI (by omega), by omega⟩
                refine r_aload_n (x := some 761) (pc2 := 161) d_M_says_160 rfl rfl ?_
                refine q_getR (x := some kA) (pc2 := 164) d_M_says_161 rfl k_M_22 rfl (sh_761 hS) hT.1 ?_
                refine r_aload_n (x := some 761) (pc2 := 165) d_M_says_164 rfl rfl ?_
                refine q_getR (x := some cA) (pc2 := 168) d_M_says_165 rfl k_M_28 rfl (sh_761 hS) hT.2.2.1 ?_
                refine r_iload_n (pc2 := 169) d_M_says_168 rfl rfl ?_
                refine q_iaload (q := t) (x := nI cta) (pc2 := 170) d_M_says_169 rfl (hT.2.2.2.2.2.2.1) (nI_toInt (by omega)) (by omega) cxa ?_
                refine q_iaload (q := cta) (x := I kA cta) (pc2 := 171) d_M_says_170 rfl (hT.2.2.2.2.1) (nI_toInt (by omega)) (by omega) rfl ?_
                refine Run.ret (some (.int (I kA cta))) d_M_says_171 ⟨_, rfl⟩ ?_
                exact RQ.val (by (try simp only [esN, hztsN, ekN, htt2, kya, fya, cya, Int.toNat_natCast] at c1 c3 c4 c5 c7); (unfold o_says); (try dsimp only); (try simp only [esN, hztsN, ekN, htt2, kya, fya, cya, Int.toNat_natCast]); (repeat (first | rw [if_pos (by omega)] | rw [if_neg (by omega)])); (try rfl); (all_goals first | rfl | (congr 2 <;> omega) | ((repeat' split) <;> first | rfl | (exfalso; omega) | (congr 2 <;> omega) | skip)); (try rfl)) FrS.rf
              · obtain rfl : t2 = 172 := by
                  have hh : (some (75 : Int)) = some off := by rw [c8e] at c8o; exact c8o
                  cases hh; omega
                refine r_aload_n (x := some 761) (pc2 := 173) d_M_says_172 rfl rfl ?_
                refine q_getR (x := some kA) (pc2 := 176) d_M_says_173 rfl k_M_22 rfl (sh_761 hS) hT.1 ?_
                refine r_aload_n (x := some 761) (pc2 := 177) d_M_says_176 rfl rfl ?_
                refine q_getR (x := some fA) (pc2 := 180) d_M_says_177 rfl k_M_25 rfl (sh_761 hS) hT.2.1 ?_
                refine r_iload_n (pc2 := 181) d_M_says_180 rfl rfl ?_
                refine q_iaload (q := t) (x := nI fta) (pc2 := 182) d_M_says_181 rfl (hT.2.2.2.2.2.1) (nI_toInt (by omega)) (by omega) fxa ?_
                refine q_iaload (q := fta) (x := I kA fta) (pc2 := 183) d_M_says_182 rfl (hT.2.2.2.2.1) (nI_toInt (by omega)) (by omega) rfl ?_
                refine Run.ret (some (.int (I kA fta))) d_M_says_183 ⟨_, rfl⟩ ?_
                exact RQ.val (by (try simp only [esN, hztsN, ekN, htt2, kya, fya, Int.toNat_natCast] at c1 c3 c4 c5 c7); (unfold o_says); (try dsimp only); (try simp only [esN, hztsN, ekN, htt2, kya, fya, Int.toNat_natCast]); (repeat (first | rw [if_pos (by omega)] | rw [if_neg (by omega)])); (try rfl); (all_goals first | rfl | (congr 2 <;> omega) | ((repeat' split) <;> first | rfl | (exfalso; omega) | (congr 2 <;> omega) | skip)); (try rfl)) FrS.rf
              · obtain rfl : t2 = 184 := by
                  have hh : (some (87 : Int)) = some off := by rw [c8e] at c8o; exact c8o
                  cases hh; omega
                refine r_iconst (v := nI 1) (pc2 := 185) d_M_says_184 rfl (by decide) ?_
                refine Run.ret (some (.int (nI 1))) d_M_says_185 ⟨_, rfl⟩ ?_
                exact RQ.val (by (try simp only [esN, hztsN, ekN, htt2, kya, fya, Int.toNat_natCast] at c1 c3 c4 c5 c7); (unfold o_says); (try dsimp only); (try simp only [esN, hztsN, ekN, htt2, kya, fya, Int.toNat_natCast]); (repeat (first | rw [if_pos (by omega)] | rw [if_neg (by omega)])); (try rfl); (all_goals first | rfl | (congr 2 <;> omega) | ((repeat' split) <;> first | rfl | (exfalso; omega) | (congr 2 <;> omega) | skip)); (try rfl)) FrS.rf
              · obtain rfl : t2 = 186 := by
                  have hh : (some (89 : Int)) = some off := by rw [c8e] at c8o; exact c8o
                  cases hh; omega
                refine r_bipush (v := nI 10) (pc2 := 188) d_M_says_186 rfl (by decide) ?_
                refine r_aload_n (x := some 761) (pc2 := 189) d_M_says_188 rfl rfl ?_
                refine q_getR (x := some fA) (pc2 := 192) d_M_says_189 rfl k_M_25 rfl (sh_761 hS) hT.2.1 ?_
                refine r_iload_n (pc2 := 193) d_M_says_192 rfl rfl ?_
                refine q_iaload (q := t) (x := I fA t) (pc2 := 194) d_M_says_193 rfl (hT.2.2.2.2.2.1) (nI_toInt (by omega)) (by omega) rfl ?_
                refine r_imul (pc2 := 195) d_M_says_194 rfl ?_
                refine r_aload_n (x := some 761) (pc2 := 196) d_M_says_195 rfl rfl ?_
                refine q_getR (x := some cA) (pc2 := 199) d_M_says_196 rfl k_M_28 rfl (sh_761 hS) hT.2.2.1 ?_
                refine r_iload_n (pc2 := 200) d_M_says_199 rfl rfl ?_
                refine q_iaload (q := t) (x := I cA t) (pc2 := 201) d_M_says_200 rfl (hT.2.2.2.2.2.2.1) (nI_toInt (by omega)) (by omega) rfl ?_
                refine r_iadd (pc2 := 202) d_M_says_201 rfl ?_
                refine Run.ret (some (.int (((nI 10) * (I fA t)) + (I cA t)))) d_M_says_202 ⟨_, rfl⟩ ?_
                exact RQ.val (by (try simp only [esN, hztsN, ekN, htt2, kya, fya, Int.toNat_natCast] at c1 c3 c4 c5 c7); (unfold o_says); (try dsimp only); (try simp only [esN, hztsN, ekN, htt2, kya, fya, Int.toNat_natCast]); (repeat (first | rw [if_pos (by omega)] | rw [if_neg (by omega)])); (try rfl); (all_goals first | rfl | (congr 2 <;> omega) | ((repeat' split) <;> first | rfl | (exfalso; omega) | (congr 2 <;> omega) | skip)); (try rfl)) FrS.rf
              · obtain rfl : t2 = 203 := by
                  have hh : (some (106 : Int)) = some off := by rw [c8e] at c8o; exact c8o
                  cases hh; omega
                refine r_aload_n (x := some 761) (pc2 := 204) d_M_says_203 rfl rfl ?_
                refine q_getR (x := some cA) (pc2 := 207) d_M_says_204 rfl k_M_28 rfl (sh_761 hS) hT.2.2.1 ?_
                refine r_iload_n (pc2 := 208) d_M_says_207 rfl rfl ?_
                refine q_iaload (q := t) (x := I cA t) (pc2 := 209) d_M_says_208 rfl (hT.2.2.2.2.2.2.1) (nI_toInt (by omega)) (by omega) rfl ?_
                refine r_aload_n (x := some 761) (pc2 := 210) d_M_says_209 rfl rfl ?_
                refine q_getR (x := some fA) (pc2 := 213) d_M_says_210 rfl k_M_25 rfl (sh_761 hS) hT.2.1 ?_
                refine r_iload_n (pc2 := 214) d_M_says_213 rfl rfl ?_
                refine q_iaload (q := t) (x := I fA t) (pc2 := 215) d_M_says_214 rfl (hT.2.2.2.2.2.1) (nI_toInt (by omega)) (by omega) rfl ?_
                refine r_isub (pc2 := 216) d_M_says_215 rfl ?_
                refine r_iconst (v := nI 1) (pc2 := 217) d_M_says_216 rfl (by decide) ?_
                refine r_iadd (pc2 := 218) d_M_says_217 rfl ?_
                refine Run.ret (some (.int (((I cA t) - (I fA t)) + (nI 1)))) d_M_says_218 ⟨_, rfl⟩ ?_
                exact RQ.val (by (try simp only [esN, hztsN, ekN, htt2, kya, fya, Int.toNat_natCast] at c1 c3 c4 c5 c7); (unfold o_says); (try dsimp only); (try simp only [esN, hztsN, ekN, htt2, kya, fya, Int.toNat_natCast]); (repeat (first | rw [if_pos (by omega)] | rw [if_neg (by omega)])); (try rfl); (all_goals first | rfl | (congr 2 <;> omega) | ((repeat' split) <;> first | rfl | (exfalso; omega) | (congr 2 <;> omega) | skip)); (try rfl)) FrS.rf
              · obtain rfl : t2 = 219 := by
                  have hh : (some (122 : Int)) = some off := by rw [c8e] at c8o; exact c8o
                  cases hh; omega
                obtain ⟨cta, cxa, cya⟩ : ∃ a : Nat, I cA t = nI a ∧ (I cA t).toInt = (a : Int) := ⟨(I cA t).toInt.toNat, eq_nI (by omega), by omega⟩
                refine r_aload_n (x := some 761) (pc2 := 220) d_M_says_219 rfl rfl ?_
                refine r_aload_n (x := some 761) (pc2 := 221) d_M_says_220 rfl rfl ?_
                refine q_getR (x := some fA) (pc2 := 224) d_M_says_221 rfl k_M_25 rfl (sh_761 hS) hT.2.1 ?_
                refine r_iload_n (pc2 := 225) d_M_says_224 rfl rfl ?_
                refine q_iaload (q := t) (x := nI fta) (pc2 := 226) d_M_says_225 rfl (hT.2.2.2.2.2.1) (nI_toInt (by omega)) (by omega) fxa ?_
                refine r_aload_n (x := some 761) (pc2 := 227) d_M_says_226 rfl rfl ?_
                refine q_getR (x := some cA) (pc2 := 230) d_M_says_227 rfl k_M_28 rfl (sh_761 hS) hT.2.2.1 ?_
                refine r_iload_n (pc2 := 231) d_M_says_230 rfl rfl ?_
                refine q_iaload (q := t) (x := nI cta) (pc2 := 232) d_M_says_231 rfl (hT.2.2.2.2.2.2.1) (nI_toInt (by omega)) (by omega) cxa ?_
                refine r_iconst (v := nI 0) (pc2 := 233) d_M_says_232 rfl (by decide) ?_
                refine q_callv (M2 := mi_M_soTogether) (pc2 := 236) d_M_says_233 rfl k_M_309 cm_M_soTogether cv_M_soTogether (sh_761 hS) (by decide) rfl rfl rfl (Nat.le_of_ble_eq_true rfl) (c_M_soTogether_0 hS hR hT hTn hV hnt hnk hW (a := fta) (c := cta) (by omega) (by omega) (by omega)) (d2 := d - 1) (by omega) (Nat.le_of_eq (Nat.zero_add _)) (Nat.le_of_eq (Nat.zero_add _)) ?_
                refine Run.ret (some (.int (nI (cnt (fun p => (trP (TRE I kA fA cA gA) (I 762) fta p ^^ trP (TRE I kA fA cA gA) (I 762) cta p)) nP)))) d_M_says_236 ⟨_, rfl⟩ ?_
                exact RQ.val (by (try simp only [esN, hztsN, ekN, htt2, kya, fya, cya, Int.toNat_natCast] at c1 c3 c4 c5 c7); (unfold o_says); (try dsimp only); (try simp only [esN, hztsN, ekN, htt2, kya, fya, cya, Int.toNat_natCast]); (repeat (first | rw [if_pos (by omega)] | rw [if_neg (by omega)])); (try rfl); (all_goals first | rfl | (congr 2 <;> omega) | ((repeat' split) <;> first | rfl | (exfalso; omega) | (congr 2 <;> omega) | skip)); (try rfl)) FrS.rf
            · obtain ⟨cta, cxa, cya⟩ : ∃ a : Nat, I cA t = nI a ∧ (I cA t).toInt = (a : Int) := ⟨(I cA t).toInt.toNat, eq_nI (by omega), by omega⟩
              refine r_aload_n (x := some 761) (pc2 := 238) d_M_says_237 rfl rfl ?_
              refine r_aload_n (x := some 761) (pc2 := 239) d_M_says_238 rfl rfl ?_
              refine q_getR (x := some fA) (pc2 := 242) d_M_says_239 rfl k_M_25 rfl (sh_761 hS) hT.2.1 ?_
              refine r_iload_n (pc2 := 243) d_M_says_242 rfl rfl ?_
              refine q_iaload (q := t) (x := nI fta) (pc2 := 244) d_M_says_243 rfl (hT.2.2.2.2.2.1) (nI_toInt (by omega)) (by omega) fxa ?_
              refine r_aload_n (x := some 761) (pc2 := 245) d_M_says_244 rfl rfl ?_
              refine q_getR (x := some cA) (pc2 := 248) d_M_says_245 rfl k_M_28 rfl (sh_761 hS) hT.2.2.1 ?_
              refine r_iload_n (pc2 := 249) d_M_says_248 rfl rfl ?_
              refine q_iaload (q := t) (x := nI cta) (pc2 := 250) d_M_says_249 rfl (hT.2.2.2.2.2.2.1) (nI_toInt (by omega)) (by omega) cxa ?_
              refine r_iconst (v := nI 1) (pc2 := 251) d_M_says_250 rfl (by decide) ?_
              refine q_callv (M2 := mi_M_soTogether) (pc2 := 254) d_M_says_251 rfl k_M_309 cm_M_soTogether cv_M_soTogether (sh_761 hS) (by decide) rfl rfl rfl (Nat.le_of_ble_eq_true rfl) (c_M_soTogether_1 hS hR hT hTn hV hnt hnk hW (a := fta) (c := cta) (by omega) (by omega) (by omega)) (d2 := d - 1) (by omega) (Nat.le_of_eq (Nat.zero_add _)) (Nat.le_of_eq (Nat.zero_add _)) ?_
              refine Run.ret (some (.int (nI (cnt (fun p => (trP (TRE I kA fA cA gA) (I 762) fta p && trP (TRE I kA fA cA gA) (I 762) cta p)) nP)))) d_M_says_254 ⟨_, rfl⟩ ?_
              exact RQ.val (by (try simp only [esN, hztsN, ekN, htt2, kya, fya, cya, Int.toNat_natCast] at c1 c3 c4 c5 c7 c8); (unfold o_says); (try dsimp only); (try simp only [esN, hztsN, ekN, htt2, kya, fya, cya, Int.toNat_natCast]); (repeat (first | rw [if_pos (by omega)] | rw [if_neg (by omega)])); (try rfl); (all_goals first | rfl | (congr 2 <;> omega) | ((repeat' split) <;> first | rfl | (exfalso; omega) | (congr 2 <;> omega) | skip)); (try rfl)) FrS.rf
          · refine r_aload_n (x := some 761) (pc2 := 90) d_M_says_89 rfl rfl ?_
            refine r_bipush (v := (-33 : Int32)) (pc2 := 92) d_M_says_90 rfl (by decide) ?_
            refine q_callv (M2 := mi_M_refused) (pc2 := 95) d_M_says_92 rfl k_M_106 cm_M_refused cv_M_refused (sh_761 hS) (by decide) rfl rfl rfl (Nat.le_of_ble_eq_true rfl) (c_M_refused_1 (I := I) hS hR) (d2 := d - 1) (by omega) (Nat.le_of_eq (Nat.zero_add _)) (Nat.le_of_eq (Nat.zero_add _)) ?_
            obtain ⟨I9, hI9⟩ : ∃ x, x = u2 I 765 1 (I 765 1 + nI 1) := ⟨_, rfl⟩
            rw [← hI9]
            refine Run.ret (some (.int ((-33 : Int32)))) d_M_says_95 ⟨_, rfl⟩ ?_
            exact RQ.bad 1 (by (try simp only [esN, hztsN, ekN, htt2, kya, fya, Int.toNat_natCast] at c1 c3 c4 c5 c7); (unfold o_says); (try dsimp only); (try simp only [esN, hztsN, ekN, htt2, kya, fya, Int.toNat_natCast]); (repeat (first | rw [if_pos (by omega)] | rw [if_neg (by omega)])); (try rfl); (all_goals first | rfl | (congr 2 <;> omega) | ((repeat' split) <;> first | rfl | (exfalso; omega) | (congr 2 <;> omega) | skip)); (try rfl)) (by decide) FrS.rf hI9
        · refine r_aload_n (x := some 761) (pc2 := 60) d_M_says_59 rfl rfl ?_
          refine r_bipush (v := (-34 : Int32)) (pc2 := 62) d_M_says_60 rfl (by decide) ?_
          refine q_callv (M2 := mi_M_refused) (pc2 := 65) d_M_says_62 rfl k_M_106 cm_M_refused cv_M_refused (sh_761 hS) (by decide) rfl rfl rfl (Nat.le_of_ble_eq_true rfl) (c_M_refused_2 (I := I) hS hR) (d2 := d - 1) (by omega) (Nat.le_of_eq (Nat.zero_add _)) (Nat.le_of_eq (Nat.zero_add _)) ?_
          obtain ⟨I10, hI10⟩ : ∃ x, x = u2 I 765 2 (I 765 2 + nI 1) := ⟨_, rfl⟩
          rw [← hI10]
          refine Run.ret (some (.int ((-34 : Int32)))) d_M_says_65 ⟨_, rfl⟩ ?_
          exact RQ.bad 2 (by (try simp only [esN, hztsN, ekN, Int.toNat_natCast] at c1 c3 c4 c5); (unfold o_says); (try dsimp only); (try simp only [esN, hztsN, ekN, Int.toNat_natCast]); (repeat (first | rw [if_pos (by omega)] | rw [if_neg (by omega)])); (try rfl); (all_goals first | rfl | (congr 2 <;> omega) | ((repeat' split) <;> first | rfl | (exfalso; omega) | (congr 2 <;> omega) | skip)); (try rfl)) (by decide) FrS.rf hI10
      · refine r_aload_n (x := some 761) (pc2 := 44) d_M_says_43 rfl rfl ?_
        refine r_bipush (v := (-33 : Int32)) (pc2 := 46) d_M_says_44 rfl (by decide) ?_
        refine q_callv (M2 := mi_M_refused) (pc2 := 49) d_M_says_46 rfl k_M_106 cm_M_refused cv_M_refused (sh_761 hS) (by decide) rfl rfl rfl (Nat.le_of_ble_eq_true rfl) (c_M_refused_1 (I := I) hS hR) (d2 := d - 1) (by omega) (Nat.le_of_eq (Nat.zero_add _)) (Nat.le_of_eq (Nat.zero_add _)) ?_
        obtain ⟨I11, hI11⟩ : ∃ x, x = u2 I 765 1 (I 765 1 + nI 1) := ⟨_, rfl⟩
        rw [← hI11]
        refine Run.ret (some (.int ((-33 : Int32)))) d_M_says_49 ⟨_, rfl⟩ ?_
        exact RQ.bad 1 (by (try simp only [esN, hztsN, ekN, Int.toNat_natCast] at c1 c3 c4); (unfold o_says); (try dsimp only); (try simp only [esN, hztsN, ekN, Int.toNat_natCast]); (repeat (first | rw [if_pos (by omega)] | rw [if_neg (by omega)])); (try rfl); (all_goals first | rfl | (congr 2 <;> omega) | ((repeat' split) <;> first | rfl | (exfalso; omega) | (congr 2 <;> omega) | skip)); (try rfl)) (by decide) FrS.rf hI11
    · refine r_aload_n (x := some 761) (pc2 := 20) d_M_says_19 rfl rfl ?_
      refine r_bipush (v := (-32 : Int32)) (pc2 := 22) d_M_says_20 rfl (by decide) ?_
      refine q_callv (M2 := mi_M_refused) (pc2 := 25) d_M_says_22 rfl k_M_106 cm_M_refused cv_M_refused (sh_761 hS) (by decide) rfl rfl rfl (Nat.le_of_ble_eq_true rfl) (c_M_refused_0 (I := I) hS hR) (d2 := d - 1) (by omega) (Nat.le_of_eq (Nat.zero_add _)) (Nat.le_of_eq (Nat.zero_add _)) ?_
      obtain ⟨I12, hI12⟩ : ∃ x, x = u2 I 765 0 (I 765 0 + nI 1) := ⟨_, rfl⟩
      rw [← hI12]
      refine Run.ret (some (.int ((-32 : Int32)))) d_M_says_25 ⟨_, rfl⟩ ?_
      exact RQ.bad 0 (by (try simp only [esN, hztsN, Int.toNat_natCast] at c1 c3); (unfold o_says); (try dsimp only); (try simp only [esN, hztsN, Int.toNat_natCast]); (repeat (first | rw [if_pos (by omega)] | rw [if_neg (by omega)])); (try rfl); (all_goals first | rfl | (congr 2 <;> omega) | ((repeat' split) <;> first | rfl | (exfalso; omega) | (congr 2 <;> omega) | skip)); (try rfl)) (by decide) FrS.rf hI12
