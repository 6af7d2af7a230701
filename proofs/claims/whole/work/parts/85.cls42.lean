/-! THE CLASS: copy -/
def twN (a b : Int32) : Int32 := if 4 < a.toInt ∨ 4 < b.toInt then -33 else if a.toInt < 0 ∨ b.toInt < 0 then -34 else if a.toInt = b.toInt then 0 else -33
theorem c_X_twoB {d : Nat} {I : Nat → Nat → Int32} {R : Nat → Nat → Option Nat} {L : Nat → Nat → Int64} {sh : Nat → Nat × Nat} {N : Nat} (hS : ShOK sh) (hR : RfOK R) {tK tF tC tS : Nat → Int32} {nt : Nat} (hV : TV tK tF tC nt) {so sz tz : Nat → Int32} {E : Nat → Int64} (hH : SHR tK tF tC tS I R L sh nt so sz tz E) {p q : Int32} (h : ¬ ((0 ≤ p.toInt ∧ p.toInt ≤ 7) ∧ 0 ≤ q.toInt ∧ q.toInt ≤ 7)) (hd : 6 ≤ d) : Me mi_X_twoRowsTrouble d 0 0 [.ref 0, .int p, .int q] (I, R, L, sh, N) (some (.int (-32))) (I, R, L, sh, N) := by
  refine Mt.of pn_X (Nat.le_of_ble_eq_true rfl) ?_
  show Run mi_X_twoRowsTrouble d 0 0 0 [(0, .ref 0), (1, .int p), (2, .int q)] [] (I, R, L, sh, N) _
  have hm32 : (-32 : Int32).toInt = -32 := by decide
  by_cases h7p : 0 ≤ p.toInt ∧ p.toInt ≤ 7
  · obtain ⟨pN, hpN, rfl, epN⟩ : ∃ a : Nat, a < 8 ∧ p = nI a ∧ p.toInt = (a : Int) := ⟨p.toInt.toNat, by omega, eq_nI (by omega), by omega⟩
    by_cases h7q : 0 ≤ q.toInt ∧ q.toInt ≤ 7
    · obtain ⟨qN, hqN, rfl, eqN⟩ : ∃ a : Nat, a < 8 ∧ q = nI a ∧ q.toInt = (a : Int) := ⟨q.toInt.toNat, by omega, eq_nI (by omega), by omega⟩
      exfalso; omega
    · skip
      refine r_aload_n (x := some 0) (pc2 := 1) d_X_twoRowsTrouble_0 rfl rfl ?_
      refine r_iload_n (pc2 := 2) d_X_twoRowsTrouble_1 rfl rfl ?_
      refine q_callv (M2 := mi_X_rowTrouble) (pc2 := 5) d_X_twoRowsTrouble_2 rfl k_X_83 cm_X_rowTrouble cv_X_rowTrouble (sh_0 hS) (by decide) rfl rfl rfl (Nat.le_of_ble_eq_true rfl) (c_X_rowTrouble hS hR hV hH (s := pN) (by omega) (by omega)) (d2 := d - 1) (by omega) (Nat.le_of_eq (Nat.zero_add _)) (Nat.le_of_eq (Nat.zero_add _)) ?_
      refine r_istore_n (pc2 := 6) d_X_twoRowsTrouble_5 rfl rfl (Nat.le_of_ble_eq_true rfl) ?_
      refine r_aload_n (x := some 0) (pc2 := 7) d_X_twoRowsTrouble_6 rfl rfl ?_
      refine r_iload_n (pc2 := 8) d_X_twoRowsTrouble_7 rfl rfl ?_
      refine q_callv (M2 := mi_X_rowTrouble) (pc2 := 11) d_X_twoRowsTrouble_8 rfl k_X_83 cm_X_rowTrouble cv_X_rowTrouble (sh_0 hS) (by decide) rfl rfl rfl (Nat.le_of_ble_eq_true rfl) (c_X_rowTroubleB hS hR hV hH h7q (by omega)) (d2 := d - 1) (by omega) (Nat.le_of_eq (Nat.zero_add _)) (Nat.le_of_eq (Nat.zero_add _)) ?_
      refine r_istore (pc2 := 13) d_X_twoRowsTrouble_11 rfl (Nat.le_of_ble_eq_true rfl) ?_
      refine r_iload_n (pc2 := 14) d_X_twoRowsTrouble_13 rfl rfl ?_
      refine r_bipush (v := (-32 : Int32)) (pc2 := 16) d_X_twoRowsTrouble_14 rfl (by decide) ?_
      refine q_icmp_eq (tgt := 26) (A := (rtN (so pN)).toInt) (B := (-32 : Int)) (pc2 := 19) d_X_twoRowsTrouble_16 rfl rfl (rfl) (by decide) (fun c1 => ?_) (fun c1 => ?_)
      · refine r_bipush (v := (-32 : Int32)) (pc2 := 28) d_X_twoRowsTrouble_26 rfl (by decide) ?_
        refine Run.ret (some (.int ((-32 : Int32)))) d_X_twoRowsTrouble_28 ⟨_, rfl⟩ ?_
        exact ⟨rfl, rfl⟩
      · refine r_iload (pc2 := 21) d_X_twoRowsTrouble_19 rfl rfl ?_
        refine r_bipush (v := (-32 : Int32)) (pc2 := 23) d_X_twoRowsTrouble_21 rfl (by decide) ?_
        refine q_icmp_ne (tgt := 29) (A := (-32 : Int)) (B := (-32 : Int)) (pc2 := 26) d_X_twoRowsTrouble_23 rfl rfl (by decide) (by decide) (fun c2 => ?_) (fun c2 => ?_)
        · exfalso; omega
        refine r_bipush (v := (-32 : Int32)) (pc2 := 28) d_X_twoRowsTrouble_26 rfl (by decide) ?_
        refine Run.ret (some (.int ((-32 : Int32)))) d_X_twoRowsTrouble_28 ⟨_, rfl⟩ ?_
        exact ⟨rfl, rfl⟩
  · skip
    by_cases h7q : 0 ≤ q.toInt ∧ q.toInt ≤ 7
    · obtain ⟨qN, hqN, rfl, eqN⟩ : ∃ a : Nat, a < 8 ∧ q = nI a ∧ q.toInt = (a : Int) := ⟨q.toInt.toNat, by omega, eq_nI (by omega), by omega⟩
      refine r_aload_n (x := some 0) (pc2 := 1) d_X_twoRowsTrouble_0 rfl rfl ?_
      refine r_iload_n (pc2 := 2) d_X_twoRowsTrouble_1 rfl rfl ?_
      refine q_callv (M2 := mi_X_rowTrouble) (pc2 := 5) d_X_twoRowsTrouble_2 rfl k_X_83 cm_X_rowTrouble cv_X_rowTrouble (sh_0 hS) (by decide) rfl rfl rfl (Nat.le_of_ble_eq_true rfl) (c_X_rowTroubleB hS hR hV hH h7p (by omega)) (d2 := d - 1) (by omega) (Nat.le_of_eq (Nat.zero_add _)) (Nat.le_of_eq (Nat.zero_add _)) ?_
      refine r_istore_n (pc2 := 6) d_X_twoRowsTrouble_5 rfl rfl (Nat.le_of_ble_eq_true rfl) ?_
      refine r_aload_n (x := some 0) (pc2 := 7) d_X_twoRowsTrouble_6 rfl rfl ?_
      refine r_iload_n (pc2 := 8) d_X_twoRowsTrouble_7 rfl rfl ?_
      refine q_callv (M2 := mi_X_rowTrouble) (pc2 := 11) d_X_twoRowsTrouble_8 rfl k_X_83 cm_X_rowTrouble cv_X_rowTrouble (sh_0 hS) (by decide) rfl rfl rfl (Nat.le_of_ble_eq_true rfl) (c_X_rowTrouble hS hR hV hH (s := qN) (by omega) (by omega)) (d2 := d - 1) (by omega) (Nat.le_of_eq (Nat.zero_add _)) (Nat.le_of_eq (Nat.zero_add _)) ?_
      refine r_istore (pc2 := 13) d_X_twoRowsTrouble_11 rfl (Nat.le_of_ble_eq_true rfl) ?_
      refine r_iload_n (pc2 := 14) d_X_twoRowsTrouble_13 rfl rfl ?_
      refine r_bipush (v := (-32 : Int32)) (pc2 := 16) d_X_twoRowsTrouble_14 rfl (by decide) ?_
      refine q_icmp_eq (tgt := 26) (A := (-32 : Int)) (B := (-32 : Int)) (pc2 := 19) d_X_twoRowsTrouble_16 rfl rfl (by decide) (by decide) (fun c3 => ?_) (fun c3 => ?_)
      rotate_left
      · exfalso; omega
      refine r_bipush (v := (-32 : Int32)) (pc2 := 28) d_X_twoRowsTrouble_26 rfl (by decide) ?_
      refine Run.ret (some (.int ((-32 : Int32)))) d_X_twoRowsTrouble_28 ⟨_, rfl⟩ ?_
      exact ⟨rfl, rfl⟩
    · skip
      refine r_aload_n (x := some 0) (pc2 := 1) d_X_twoRowsTrouble_0 rfl rfl ?_
      refine r_iload_n (pc2 := 2) d_X_twoRowsTrouble_1 rfl rfl ?_
      refine q_callv (M2 := mi_X_rowTrouble) (pc2 := 5) d_X_twoRowsTrouble_2 rfl k_X_83 cm_X_rowTrouble cv_X_rowTrouble (sh_0 hS) (by decide) rfl rfl rfl (Nat.le_of_ble_eq_true rfl) (c_X_rowTroubleB hS hR hV hH h7p (by omega)) (d2 := d - 1) (by omega) (Nat.le_of_eq (Nat.zero_add _)) (Nat.le_of_eq (Nat.zero_add _)) ?_
      refine r_istore_n (pc2 := 6) d_X_twoRowsTrouble_5 rfl rfl (Nat.le_of_ble_eq_true rfl) ?_
      refine r_aload_n (x := some 0) (pc2 := 7) d_X_twoRowsTrouble_6 rfl rfl ?_
      refine r_iload_n (pc2 := 8) d_X_twoRowsTrouble_7 rfl rfl ?_
      refine q_callv (M2 := mi_X_rowTrouble) (pc2 := 11) d_X_twoRowsTrouble_8 rfl k_X_83 cm_X_rowTrouble cv_X_rowTrouble (sh_0 hS) (by decide) rfl rfl rfl (Nat.le_of_ble_eq_true rfl) (c_X_rowTroubleB hS hR hV hH h7q (by omega)) (d2 := d - 1) (by omega) (Nat.le_of_eq (Nat.zero_add _)) (Nat.le_of_eq (Nat.zero_add _)) ?_
      refine r_istore (pc2 := 13) d_X_twoRowsTrouble_11 rfl (Nat.le_of_ble_eq_true rfl) ?_
      refine r_iload_n (pc2 := 14) d_X_twoRowsTrouble_13 rfl rfl ?_
      refine r_bipush (v := (-32 : Int32)) (pc2 := 16) d_X_twoRowsTrouble_14 rfl (by decide) ?_
      refine q_icmp_eq (tgt := 26) (A := (-32 : Int)) (B := (-32 : Int)) (pc2 := 19) d_X_twoRowsTrouble_16 rfl rfl (by decide) (by decide) (fun c4 => ?_) (fun c4 => ?_)
      rotate_left
      · exfalso; omega
      refine r_bipush (v := (-32 : Int32)) (pc2 := 28) d_X_twoRowsTrouble_26 rfl (by decide) ?_
      refine Run.ret (some (.int ((-32 : Int32)))) d_X_twoRowsTrouble_28 ⟨_, rfl⟩ ?_
      exact ⟨rfl, rfl⟩
theorem c_X_twoN {d : Nat} {I : Nat → Nat → Int32} {R : Nat → Nat → Option Nat} {L : Nat → Nat → Int64} {sh : Nat → Nat × Nat} {N : Nat} (hS : ShOK sh) (hR : RfOK R) {tK tF tC tS : Nat → Int32} {nt : Nat} (hV : TV tK tF tC nt) {so sz tz : Nat → Int32} {E : Nat → Int64} (hH : SHR tK tF tC tS I R L sh nt so sz tz E) {p q : Nat} (hp : p < 8) (hq : q < 8) (hd : 6 ≤ d) : Me mi_X_twoRowsTrouble d 0 0 [.ref 0, .int (nI p), .int (nI q)] (I, R, L, sh, N) (some (.int (twN (so p) (so q)))) (I, R, L, sh, N) := by
  refine Mt.of pn_X (Nat.le_of_ble_eq_true rfl) ?_
  show Run mi_X_twoRowsTrouble d 0 0 0 [(0, .ref 0), (1, .int (nI p)), (2, .int (nI q))] [] (I, R, L, sh, N) _
  have hm1 : (-1 : Int32).toInt = -1 := by decide
  rcases hH p (by omega) with ⟨hap, h0p, h3p⟩ | ⟨hap, h0p, h1p, ⟨zzp, hzp, hz40p⟩, h3p, hLp⟩ | ⟨ccp, mmp, bbp, nnp, h3p, hcop, hnmp, hbmp, h0p, h4p, htzp, hsop⟩
  · have hrtp : rtN (so p) = -34 := by unfold rtN; rw [if_neg (by omega), if_pos (by omega)]
    rcases hH q (by omega) with ⟨haq, h0q, h3q⟩ | ⟨haq, h0q, h1q, ⟨zzq, hzq, hz40q⟩, h3q, hLq⟩ | ⟨ccq, mmq, bbq, nnq, h3q, hcoq, hnmq, hbmq, h0q, h4q, htzq, hsoq⟩
    · have hrtq : rtN (so q) = -34 := by unfold rtN; rw [if_neg (by omega), if_pos (by omega)]
      refine r_aload_n (x := some 0) (pc2 := 1) d_X_twoRowsTrouble_0 rfl rfl ?_
      refine r_iload_n (pc2 := 2) d_X_twoRowsTrouble_1 rfl rfl ?_
      refine q_callv (M2 := mi_X_rowTrouble) (pc2 := 5) d_X_twoRowsTrouble_2 rfl k_X_83 cm_X_rowTrouble cv_X_rowTrouble (sh_0 hS) (by decide) rfl rfl rfl (Nat.le_of_ble_eq_true rfl) (c_X_rowTrouble hS hR hV hH (s := p) (by omega) (by omega)) (d2 := d - 1) (by omega) (Nat.le_of_eq (Nat.zero_add _)) (Nat.le_of_eq (Nat.zero_add _)) ?_
      refine q_top (y := (-34 : Int32)) hrtp ?_
      refine r_istore_n (pc2 := 6) d_X_twoRowsTrouble_5 rfl rfl (Nat.le_of_ble_eq_true rfl) ?_
      refine r_aload_n (x := some 0) (pc2 := 7) d_X_twoRowsTrouble_6 rfl rfl ?_
      refine r_iload_n (pc2 := 8) d_X_twoRowsTrouble_7 rfl rfl ?_
      refine q_callv (M2 := mi_X_rowTrouble) (pc2 := 11) d_X_twoRowsTrouble_8 rfl k_X_83 cm_X_rowTrouble cv_X_rowTrouble (sh_0 hS) (by decide) rfl rfl rfl (Nat.le_of_ble_eq_true rfl) (c_X_rowTrouble hS hR hV hH (s := q) (by omega) (by omega)) (d2 := d - 1) (by omega) (Nat.le_of_eq (Nat.zero_add _)) (Nat.le_of_eq (Nat.zero_add _)) ?_
      refine q_top (y := (-34 : Int32)) hrtq ?_
      refine r_istore (pc2 := 13) d_X_twoRowsTrouble_11 rfl (Nat.le_of_ble_eq_true rfl) ?_
      refine r_iload_n (pc2 := 14) d_X_twoRowsTrouble_13 rfl rfl ?_
      refine r_bipush (v := (-32 : Int32)) (pc2 := 16) d_X_twoRowsTrouble_14 rfl (by decide) ?_
      refine q_icmp_eq (tgt := 26) (A := (-34 : Int)) (B := (-32 : Int)) (pc2 := 19) d_X_twoRowsTrouble_16 rfl rfl (by decide) (by decide) (fun c1 => ?_) (fun c1 => ?_)
      · exfalso; omega
      refine r_iload (pc2 := 21) d_X_twoRowsTrouble_19 rfl rfl ?_
      refine r_bipush (v := (-32 : Int32)) (pc2 := 23) d_X_twoRowsTrouble_21 rfl (by decide) ?_
      refine q_icmp_ne (tgt := 29) (A := (-34 : Int)) (B := (-32 : Int)) (pc2 := 26) d_X_twoRowsTrouble_23 rfl rfl (by decide) (by decide) (fun c2 => ?_) (fun c2 => ?_)
      rotate_left
      · exfalso; omega
      refine r_iload_n (pc2 := 30) d_X_twoRowsTrouble_29 rfl rfl ?_
      refine r_bipush (v := (-33 : Int32)) (pc2 := 32) d_X_twoRowsTrouble_30 rfl (by decide) ?_
      refine q_icmp_eq (tgt := 42) (A := (-34 : Int)) (B := (-33 : Int)) (pc2 := 35) d_X_twoRowsTrouble_32 rfl rfl (by decide) (by decide) (fun c3 => ?_) (fun c3 => ?_)
      · exfalso; omega
      refine r_iload (pc2 := 37) d_X_twoRowsTrouble_35 rfl rfl ?_
      refine r_bipush (v := (-33 : Int32)) (pc2 := 39) d_X_twoRowsTrouble_37 rfl (by decide) ?_
      refine q_icmp_ne (tgt := 45) (A := (-34 : Int)) (B := (-33 : Int)) (pc2 := 42) d_X_twoRowsTrouble_39 rfl rfl (by decide) (by decide) (fun c4 => ?_) (fun c4 => ?_)
      rotate_left
      · exfalso; omega
      refine r_iload_n (pc2 := 46) d_X_twoRowsTrouble_45 rfl rfl ?_
      refine r_bipush (v := (-34 : Int32)) (pc2 := 48) d_X_twoRowsTrouble_46 rfl (by decide) ?_
      refine q_icmp_eq (tgt := 58) (A := (-34 : Int)) (B := (-34 : Int)) (pc2 := 51) d_X_twoRowsTrouble_48 rfl rfl (by decide) (by decide) (fun c5 => ?_) (fun c5 => ?_)
      rotate_left
      · exfalso; omega
      refine r_bipush (v := (-34 : Int32)) (pc2 := 60) d_X_twoRowsTrouble_58 rfl (by decide) ?_
      refine Run.ret (some (.int ((-34 : Int32)))) d_X_twoRowsTrouble_60 ⟨_, rfl⟩ ?_
      first | (exfalso; omega) | exact ⟨by unfold twN; (repeat (first | rw [if_pos (by omega)] | rw [if_neg (by omega)])); (try rfl), rfl⟩
    · have hrtq : rtN (so q) = nI 0 := by unfold rtN; rw [if_neg (by omega), if_neg (by omega)]; rfl
      have hziq : (sz q).toInt = (zzq : Int) := by rw [hzq]; exact nI_toInt (by omega)
      refine r_aload_n (x := some 0) (pc2 := 1) d_X_twoRowsTrouble_0 rfl rfl ?_
      refine r_iload_n (pc2 := 2) d_X_twoRowsTrouble_1 rfl rfl ?_
      refine q_callv (M2 := mi_X_rowTrouble) (pc2 := 5) d_X_twoRowsTrouble_2 rfl k_X_83 cm_X_rowTrouble cv_X_rowTrouble (sh_0 hS) (by decide) rfl rfl rfl (Nat.le_of_ble_eq_true rfl) (c_X_rowTrouble hS hR hV hH (s := p) (by omega) (by omega)) (d2 := d - 1) (by omega) (Nat.le_of_eq (Nat.zero_add _)) (Nat.le_of_eq (Nat.zero_add _)) ?_
      refine q_top (y := (-34 : Int32)) hrtp ?_
      refine r_istore_n (pc2 := 6) d_X_twoRowsTrouble_5 rfl rfl (Nat.le_of_ble_eq_true rfl) ?_
      refine r_aload_n (x := some 0) (pc2 := 7) d_X_twoRowsTrouble_6 rfl rfl ?_
      refine r_iload_n (pc2 := 8) d_X_twoRowsTrouble_7 rfl rfl ?_
      refine q_callv (M2 := mi_X_rowTrouble) (pc2 := 11) d_X_twoRowsTrouble_8 rfl k_X_83 cm_X_rowTrouble cv_X_rowTrouble (sh_0 hS) (by decide) rfl rfl rfl (Nat.le_of_ble_eq_true rfl) (c_X_rowTrouble hS hR hV hH (s := q) (by omega) (by omega)) (d2 := d - 1) (by omega) (Nat.le_of_eq (Nat.zero_add _)) (Nat.le_of_eq (Nat.zero_add _)) ?_
      refine q_top (y := nI 0) hrtq ?_
      refine r_istore (pc2 := 13) d_X_twoRowsTrouble_11 rfl (Nat.le_of_ble_eq_true rfl) ?_
      refine r_iload_n (pc2 := 14) d_X_twoRowsTrouble_13 rfl rfl ?_
      refine r_bipush (v := (-32 : Int32)) (pc2 := 16) d_X_twoRowsTrouble_14 rfl (by decide) ?_
      refine q_icmp_eq (tgt := 26) (A := (-34 : Int)) (B := (-32 : Int)) (pc2 := 19) d_X_twoRowsTrouble_16 rfl rfl (by decide) (by decide) (fun c6 => ?_) (fun c6 => ?_)
      · exfalso; omega
      refine r_iload (pc2 := 21) d_X_twoRowsTrouble_19 rfl rfl ?_
      refine r_bipush (v := (-32 : Int32)) (pc2 := 23) d_X_twoRowsTrouble_21 rfl (by decide) ?_
      refine q_icmp_ne (tgt := 29) (A := (0 : Int)) (B := (-32 : Int)) (pc2 := 26) d_X_twoRowsTrouble_23 rfl rfl (nI_toInt (by omega)) (by decide) (fun c7 => ?_) (fun c7 => ?_)
      rotate_left
      · exfalso; omega
      refine r_iload_n (pc2 := 30) d_X_twoRowsTrouble_29 rfl rfl ?_
      refine r_bipush (v := (-33 : Int32)) (pc2 := 32) d_X_twoRowsTrouble_30 rfl (by decide) ?_
      refine q_icmp_eq (tgt := 42) (A := (-34 : Int)) (B := (-33 : Int)) (pc2 := 35) d_X_twoRowsTrouble_32 rfl rfl (by decide) (by decide) (fun c8 => ?_) (fun c8 => ?_)
      · exfalso; omega
      refine r_iload (pc2 := 37) d_X_twoRowsTrouble_35 rfl rfl ?_
      refine r_bipush (v := (-33 : Int32)) (pc2 := 39) d_X_twoRowsTrouble_37 rfl (by decide) ?_
      refine q_icmp_ne (tgt := 45) (A := (0 : Int)) (B := (-33 : Int)) (pc2 := 42) d_X_twoRowsTrouble_39 rfl rfl (nI_toInt (by omega)) (by decide) (fun c9 => ?_) (fun c9 => ?_)
      rotate_left
      · exfalso; omega
      refine r_iload_n (pc2 := 46) d_X_twoRowsTrouble_45 rfl rfl ?_
      refine r_bipush (v := (-34 : Int32)) (pc2 := 48) d_X_twoRowsTrouble_46 rfl (by decide) ?_
      refine q_icmp_eq (tgt := 58) (A := (-34 : Int)) (B := (-34 : Int)) (pc2 := 51) d_X_twoRowsTrouble_48 rfl rfl (by decide) (by decide) (fun c10 => ?_) (fun c10 => ?_)
      rotate_left
      · exfalso; omega
      refine r_bipush (v := (-34 : Int32)) (pc2 := 60) d_X_twoRowsTrouble_58 rfl (by decide) ?_
      refine Run.ret (some (.int ((-34 : Int32)))) d_X_twoRowsTrouble_60 ⟨_, rfl⟩ ?_
      first | (exfalso; omega) | exact ⟨by unfold twN; (repeat (first | rw [if_pos (by omega)] | rw [if_neg (by omega)])); (try rfl), rfl⟩
    · obtain ⟨haq, hk3q, hk8q⟩ := SH1.ci hV (show bbq + nnq < nt by omega) hsoq
      have hrtq : rtN (so q) = -33 := by unfold rtN; rw [if_pos (by omega)]
      have hmmq := hcoq.2.2.1.2
      refine r_aload_n (x := some 0) (pc2 := 1) d_X_twoRowsTrouble_0 rfl rfl ?_
      refine r_iload_n (pc2 := 2) d_X_twoRowsTrouble_1 rfl rfl ?_
      refine q_callv (M2 := mi_X_rowTrouble) (pc2 := 5) d_X_twoRowsTrouble_2 rfl k_X_83 cm_X_rowTrouble cv_X_rowTrouble (sh_0 hS) (by decide) rfl rfl rfl (Nat.le_of_ble_eq_true rfl) (c_X_rowTrouble hS hR hV hH (s := p) (by omega) (by omega)) (d2 := d - 1) (by omega) (Nat.le_of_eq (Nat.zero_add _)) (Nat.le_of_eq (Nat.zero_add _)) ?_
      refine q_top (y := (-34 : Int32)) hrtp ?_
      refine r_istore_n (pc2 := 6) d_X_twoRowsTrouble_5 rfl rfl (Nat.le_of_ble_eq_true rfl) ?_
      refine r_aload_n (x := some 0) (pc2 := 7) d_X_twoRowsTrouble_6 rfl rfl ?_
      refine r_iload_n (pc2 := 8) d_X_twoRowsTrouble_7 rfl rfl ?_
      refine q_callv (M2 := mi_X_rowTrouble) (pc2 := 11) d_X_twoRowsTrouble_8 rfl k_X_83 cm_X_rowTrouble cv_X_rowTrouble (sh_0 hS) (by decide) rfl rfl rfl (Nat.le_of_ble_eq_true rfl) (c_X_rowTrouble hS hR hV hH (s := q) (by omega) (by omega)) (d2 := d - 1) (by omega) (Nat.le_of_eq (Nat.zero_add _)) (Nat.le_of_eq (Nat.zero_add _)) ?_
      refine q_top (y := (-33 : Int32)) hrtq ?_
      refine r_istore (pc2 := 13) d_X_twoRowsTrouble_11 rfl (Nat.le_of_ble_eq_true rfl) ?_
      refine r_iload_n (pc2 := 14) d_X_twoRowsTrouble_13 rfl rfl ?_
      refine r_bipush (v := (-32 : Int32)) (pc2 := 16) d_X_twoRowsTrouble_14 rfl (by decide) ?_
      refine q_icmp_eq (tgt := 26) (A := (-34 : Int)) (B := (-32 : Int)) (pc2 := 19) d_X_twoRowsTrouble_16 rfl rfl (by decide) (by decide) (fun c11 => ?_) (fun c11 => ?_)
      · exfalso; omega
      refine r_iload (pc2 := 21) d_X_twoRowsTrouble_19 rfl rfl ?_
      refine r_bipush (v := (-32 : Int32)) (pc2 := 23) d_X_twoRowsTrouble_21 rfl (by decide) ?_
      refine q_icmp_ne (tgt := 29) (A := (-33 : Int)) (B := (-32 : Int)) (pc2 := 26) d_X_twoRowsTrouble_23 rfl rfl (by decide) (by decide) (fun c12 => ?_) (fun c12 => ?_)
      rotate_left
      · exfalso; omega
      refine r_iload_n (pc2 := 30) d_X_twoRowsTrouble_29 rfl rfl ?_
      refine r_bipush (v := (-33 : Int32)) (pc2 := 32) d_X_twoRowsTrouble_30 rfl (by decide) ?_
      refine q_icmp_eq (tgt := 42) (A := (-34 : Int)) (B := (-33 : Int)) (pc2 := 35) d_X_twoRowsTrouble_32 rfl rfl (by decide) (by decide) (fun c13 => ?_) (fun c13 => ?_)
      · exfalso; omega
      refine r_iload (pc2 := 37) d_X_twoRowsTrouble_35 rfl rfl ?_
      refine r_bipush (v := (-33 : Int32)) (pc2 := 39) d_X_twoRowsTrouble_37 rfl (by decide) ?_
      refine q_icmp_ne (tgt := 45) (A := (-33 : Int)) (B := (-33 : Int)) (pc2 := 42) d_X_twoRowsTrouble_39 rfl rfl (by decide) (by decide) (fun c14 => ?_) (fun c14 => ?_)
      · exfalso; omega
      refine r_bipush (v := (-33 : Int32)) (pc2 := 44) d_X_twoRowsTrouble_42 rfl (by decide) ?_
      refine Run.ret (some (.int ((-33 : Int32)))) d_X_twoRowsTrouble_44 ⟨_, rfl⟩ ?_
      first | (exfalso; omega) | exact ⟨by unfold twN; (repeat (first | rw [if_pos (by omega)] | rw [if_neg (by omega)])); (try rfl), rfl⟩
  · have hrtp : rtN (so p) = nI 0 := by unfold rtN; rw [if_neg (by omega), if_neg (by omega)]; rfl
    have hzip : (sz p).toInt = (zzp : Int) := by rw [hzp]; exact nI_toInt (by omega)
    rcases hH q (by omega) with ⟨haq, h0q, h3q⟩ | ⟨haq, h0q, h1q, ⟨zzq, hzq, hz40q⟩, h3q, hLq⟩ | ⟨ccq, mmq, bbq, nnq, h3q, hcoq, hnmq, hbmq, h0q, h4q, htzq, hsoq⟩
    · have hrtq : rtN (so q) = -34 := by unfold rtN; rw [if_neg (by omega), if_pos (by omega)]
      refine r_aload_n (x := some 0) (pc2 := 1) d_X_twoRowsTrouble_0 rfl rfl ?_
      refine r_iload_n (pc2 := 2) d_X_twoRowsTrouble_1 rfl rfl ?_
      refine q_callv (M2 := mi_X_rowTrouble) (pc2 := 5) d_X_twoRowsTrouble_2 rfl k_X_83 cm_X_rowTrouble cv_X_rowTrouble (sh_0 hS) (by decide) rfl rfl rfl (Nat.le_of_ble_eq_true rfl) (c_X_rowTrouble hS hR hV hH (s := p) (by omega) (by omega)) (d2 := d - 1) (by omega) (Nat.le_of_eq (Nat.zero_add _)) (Nat.le_of_eq (Nat.zero_add _)) ?_
      refine q_top (y := nI 0) hrtp ?_
      refine r_istore_n (pc2 := 6) d_X_twoRowsTrouble_5 rfl rfl (Nat.le_of_ble_eq_true rfl) ?_
      refine r_aload_n (x := some 0) (pc2 := 7) d_X_twoRowsTrouble_6 rfl rfl ?_
      refine r_iload_n (pc2 := 8) d_X_twoRowsTrouble_7 rfl rfl ?_
      refine q_callv (M2 := mi_X_rowTrouble) (pc2 := 11) d_X_twoRowsTrouble_8 rfl k_X_83 cm_X_rowTrouble cv_X_rowTrouble (sh_0 hS) (by decide) rfl rfl rfl (Nat.le_of_ble_eq_true rfl) (c_X_rowTrouble hS hR hV hH (s := q) (by omega) (by omega)) (d2 := d - 1) (by omega) (Nat.le_of_eq (Nat.zero_add _)) (Nat.le_of_eq (Nat.zero_add _)) ?_
      refine q_top (y := (-34 : Int32)) hrtq ?_
      refine r_istore (pc2 := 13) d_X_twoRowsTrouble_11 rfl (Nat.le_of_ble_eq_true rfl) ?_
      refine r_iload_n (pc2 := 14) d_X_twoRowsTrouble_13 rfl rfl ?_
      refine r_bipush (v := (-32 : Int32)) (pc2 := 16) d_X_twoRowsTrouble_14 rfl (by decide) ?_
      refine q_icmp_eq (tgt := 26) (A := (0 : Int)) (B := (-32 : Int)) (pc2 := 19) d_X_twoRowsTrouble_16 rfl rfl (nI_toInt (by omega)) (by decide) (fun c15 => ?_) (fun c15 => ?_)
      · exfalso; omega
      refine r_iload (pc2 := 21) d_X_twoRowsTrouble_19 rfl rfl ?_
      refine r_bipush (v := (-32 : Int32)) (pc2 := 23) d_X_twoRowsTrouble_21 rfl (by decide) ?_
      refine q_icmp_ne (tgt := 29) (A := (-34 : Int)) (B := (-32 : Int)) (pc2 := 26) d_X_twoRowsTrouble_23 rfl rfl (by decide) (by decide) (fun c16 => ?_) (fun c16 => ?_)
      rotate_left
      · exfalso; omega
      refine r_iload_n (pc2 := 30) d_X_twoRowsTrouble_29 rfl rfl ?_
      refine r_bipush (v := (-33 : Int32)) (pc2 := 32) d_X_twoRowsTrouble_30 rfl (by decide) ?_
      refine q_icmp_eq (tgt := 42) (A := (0 : Int)) (B := (-33 : Int)) (pc2 := 35) d_X_twoRowsTrouble_32 rfl rfl (nI_toInt (by omega)) (by decide) (fun c17 => ?_) (fun c17 => ?_)
      · exfalso; omega
      refine r_iload (pc2 := 37) d_X_twoRowsTrouble_35 rfl rfl ?_
      refine r_bipush (v := (-33 : Int32)) (pc2 := 39) d_X_twoRowsTrouble_37 rfl (by decide) ?_
      refine q_icmp_ne (tgt := 45) (A := (-34 : Int)) (B := (-33 : Int)) (pc2 := 42) d_X_twoRowsTrouble_39 rfl rfl (by decide) (by decide) (fun c18 => ?_) (fun c18 => ?_)
      rotate_left
      · exfalso; omega
      refine r_iload_n (pc2 := 46) d_X_twoRowsTrouble_45 rfl rfl ?_
      refine r_bipush (v := (-34 : Int32)) (pc2 := 48) d_X_twoRowsTrouble_46 rfl (by decide) ?_
      refine q_icmp_eq (tgt := 58) (A := (0 : Int)) (B := (-34 : Int)) (pc2 := 51) d_X_twoRowsTrouble_48 rfl rfl (nI_toInt (by omega)) (by decide) (fun c19 => ?_) (fun c19 => ?_)
      · exfalso; omega
      refine r_iload (pc2 := 53) d_X_twoRowsTrouble_51 rfl rfl ?_
      refine r_bipush (v := (-34 : Int32)) (pc2 := 55) d_X_twoRowsTrouble_53 rfl (by decide) ?_
      refine q_icmp_ne (tgt := 61) (A := (-34 : Int)) (B := (-34 : Int)) (pc2 := 58) d_X_twoRowsTrouble_55 rfl rfl (by decide) (by decide) (fun c20 => ?_) (fun c20 => ?_)
      · exfalso; omega
      refine r_bipush (v := (-34 : Int32)) (pc2 := 60) d_X_twoRowsTrouble_58 rfl (by decide) ?_
      refine Run.ret (some (.int ((-34 : Int32)))) d_X_twoRowsTrouble_60 ⟨_, rfl⟩ ?_
      first | (exfalso; omega) | exact ⟨by unfold twN; (repeat (first | rw [if_pos (by omega)] | rw [if_neg (by omega)])); (try rfl), rfl⟩
    · have hrtq : rtN (so q) = nI 0 := by unfold rtN; rw [if_neg (by omega), if_neg (by omega)]; rfl
      have hziq : (sz q).toInt = (zzq : Int) := by rw [hzq]; exact nI_toInt (by omega)
      refine r_aload_n (x := some 0) (pc2 := 1) d_X_twoRowsTrouble_0 rfl rfl ?_
      refine r_iload_n (pc2 := 2) d_X_twoRowsTrouble_1 rfl rfl ?_
      refine q_callv (M2 := mi_X_rowTrouble) (pc2 := 5) d_X_twoRowsTrouble_2 rfl k_X_83 cm_X_rowTrouble cv_X_rowTrouble (sh_0 hS) (by decide) rfl rfl rfl (Nat.le_of_ble_eq_true rfl) (c_X_rowTrouble hS hR hV hH (s := p) (by omega) (by omega)) (d2 := d - 1) (by omega) (Nat.le_of_eq (Nat.zero_add _)) (Nat.le_of_eq (Nat.zero_add _)) ?_
      refine q_top (y := nI 0) hrtp ?_
      refine r_istore_n (pc2 := 6) d_X_twoRowsTrouble_5 rfl rfl (Nat.le_of_ble_eq_true rfl) ?_
      refine r_aload_n (x := some 0) (pc2 := 7) d_X_twoRowsTrouble_6 rfl rfl ?_
      refine r_iload_n (pc2 := 8) d_X_twoRowsTrouble_7 rfl rfl ?_
      refine q_callv (M2 := mi_X_rowTrouble) (pc2 := 11) d_X_twoRowsTrouble_8 rfl k_X_83 cm_X_rowTrouble cv_X_rowTrouble (sh_0 hS) (by decide) rfl rfl rfl (Nat.le_of_ble_eq_true rfl) (c_X_rowTrouble hS hR hV hH (s := q) (by omega) (by omega)) (d2 := d - 1) (by omega) (Nat.le_of_eq (Nat.zero_add _)) (Nat.le_of_eq (Nat.zero_add _)) ?_
      refine q_top (y := nI 0) hrtq ?_
      refine r_istore (pc2 := 13) d_X_twoRowsTrouble_11 rfl (Nat.le_of_ble_eq_true rfl) ?_
      refine r_iload_n (pc2 := 14) d_X_twoRowsTrouble_13 rfl rfl ?_
      refine r_bipush (v := (-32 : Int32)) (pc2 := 16) d_X_twoRowsTrouble_14 rfl (by decide) ?_
      refine q_icmp_eq (tgt := 26) (A := (0 : Int)) (B := (-32 : Int)) (pc2 := 19) d_X_twoRowsTrouble_16 rfl rfl (nI_toInt (by omega)) (by decide) (fun c21 => ?_) (fun c21 => ?_)
      · exfalso; omega
      refine r_iload (pc2 := 21) d_X_twoRowsTrouble_19 rfl rfl ?_
      refine r_bipush (v := (-32 : Int32)) (pc2 := 23) d_X_twoRowsTrouble_21 rfl (by decide) ?_
      refine q_icmp_ne (tgt := 29) (A := (0 : Int)) (B := (-32 : Int)) (pc2 := 26) d_X_twoRowsTrouble_23 rfl rfl (nI_toInt (by omega)) (by decide) (fun c22 => ?_) (fun c22 => ?_)
      rotate_left
      · exfalso; omega
      refine r_iload_n (pc2 := 30) d_X_twoRowsTrouble_29 rfl rfl ?_
      refine r_bipush (v := (-33 : Int32)) (pc2 := 32) d_X_twoRowsTrouble_30 rfl (by decide) ?_
      refine q_icmp_eq (tgt := 42) (A := (0 : Int)) (B := (-33 : Int)) (pc2 := 35) d_X_twoRowsTrouble_32 rfl rfl (nI_toInt (by omega)) (by decide) (fun c23 => ?_) (fun c23 => ?_)
      · exfalso; omega
      refine r_iload (pc2 := 37) d_X_twoRowsTrouble_35 rfl rfl ?_
      refine r_bipush (v := (-33 : Int32)) (pc2 := 39) d_X_twoRowsTrouble_37 rfl (by decide) ?_
      refine q_icmp_ne (tgt := 45) (A := (0 : Int)) (B := (-33 : Int)) (pc2 := 42) d_X_twoRowsTrouble_39 rfl rfl (nI_toInt (by omega)) (by decide) (fun c24 => ?_) (fun c24 => ?_)
      rotate_left
      · exfalso; omega
      refine r_iload_n (pc2 := 46) d_X_twoRowsTrouble_45 rfl rfl ?_
      refine r_bipush (v := (-34 : Int32)) (pc2 := 48) d_X_twoRowsTrouble_46 rfl (by decide) ?_
      refine q_icmp_eq (tgt := 58) (A := (0 : Int)) (B := (-34 : Int)) (pc2 := 51) d_X_twoRowsTrouble_48 rfl rfl (nI_toInt (by omega)) (by decide) (fun c25 => ?_) (fun c25 => ?_)
      · exfalso; omega
      refine r_iload (pc2 := 53) d_X_twoRowsTrouble_51 rfl rfl ?_
      refine r_bipush (v := (-34 : Int32)) (pc2 := 55) d_X_twoRowsTrouble_53 rfl (by decide) ?_
      refine q_icmp_ne (tgt := 61) (A := (0 : Int)) (B := (-34 : Int)) (pc2 := 58) d_X_twoRowsTrouble_55 rfl rfl (nI_toInt (by omega)) (by decide) (fun c26 => ?_) (fun c26 => ?_)
      rotate_left
      · exfalso; omega
      refine r_aload_n (x := some 0) (pc2 := 62) d_X_twoRowsTrouble_61 rfl rfl ?_
      refine q_getR (x := some 729) (pc2 := 65) d_X_twoRowsTrouble_62 rfl k_X_42 rfl (sh_0 hS) (rf_0_7 hR) ?_
      refine r_iload_n (pc2 := 66) d_X_twoRowsTrouble_65 rfl rfl ?_
      refine q_aaload (q := p) (x := some (745 + 2 * p)) (pc2 := 67) d_X_twoRowsTrouble_66 rfl (sh_729 hS) (by decide) (by decide) (nI_toInt (by omega)) (by omega) ((rf_sf hR (show p < 8 by omega)).1) ?_
      refine q_getI (x := so p) (pc2 := 70) d_X_twoRowsTrouble_67 rfl k_X_423 (by decide) (sh_sf hS (show p < 8 by omega)).1 h0p ?_
      refine r_aload_n (x := some 0) (pc2 := 71) d_X_twoRowsTrouble_70 rfl rfl ?_
      refine q_getR (x := some 729) (pc2 := 74) d_X_twoRowsTrouble_71 rfl k_X_42 rfl (sh_0 hS) (rf_0_7 hR) ?_
      refine r_iload_n (pc2 := 75) d_X_twoRowsTrouble_74 rfl rfl ?_
      refine q_aaload (q := q) (x := some (745 + 2 * q)) (pc2 := 76) d_X_twoRowsTrouble_75 rfl (sh_729 hS) (by decide) (by decide) (nI_toInt (by omega)) (by omega) ((rf_sf hR (show q < 8 by omega)).1) ?_
      refine q_getI (x := so q) (pc2 := 79) d_X_twoRowsTrouble_76 rfl k_X_423 (by decide) (sh_sf hS (show q < 8 by omega)).1 h0q ?_
      refine q_icmp_ne (tgt := 86) (A := (so p).toInt) (B := (so q).toInt) (pc2 := 82) d_X_twoRowsTrouble_79 rfl rfl (rfl) (rfl) (fun c27 => ?_) (fun c27 => ?_)
      · refine r_bipush (v := (-33 : Int32)) (pc2 := 88) d_X_twoRowsTrouble_86 rfl (by decide) ?_
        refine Run.ret (some (.int ((-33 : Int32)))) d_X_twoRowsTrouble_88 ⟨_, rfl⟩ ?_
        first | (exfalso; omega) | exact ⟨by unfold twN; (repeat (first | rw [if_pos (by omega)] | rw [if_neg (by omega)])); (try rfl), rfl⟩
      · refine r_iconst (v := nI 0) (pc2 := 83) d_X_twoRowsTrouble_82 rfl (by decide) ?_
        refine r_goto (tgt := 88) d_X_twoRowsTrouble_83 rfl ?_
        refine Run.ret (some (.int (nI 0))) d_X_twoRowsTrouble_88 ⟨_, rfl⟩ ?_
        first | (exfalso; omega) | exact ⟨by unfold twN; (repeat (first | rw [if_pos (by omega)] | rw [if_neg (by omega)])); (try rfl), rfl⟩
    · obtain ⟨haq, hk3q, hk8q⟩ := SH1.ci hV (show bbq + nnq < nt by omega) hsoq
      have hrtq : rtN (so q) = -33 := by unfold rtN; rw [if_pos (by omega)]
      have hmmq := hcoq.2.2.1.2
      refine r_aload_n (x := some 0) (pc2 := 1) d_X_twoRowsTrouble_0 rfl rfl ?_
      refine r_iload_n (pc2 := 2) d_X_twoRowsTrouble_1 rfl rfl ?_
      refine q_callv (M2 := mi_X_rowTrouble) (pc2 := 5) d_X_twoRowsTrouble_2 rfl k_X_83 cm_X_rowTrouble cv_X_rowTrouble (sh_0 hS) (by decide) rfl rfl rfl (Nat.le_of_ble_eq_true rfl) (c_X_rowTrouble hS hR hV hH (s := p) (by omega) (by omega)) (d2 := d - 1) (by omega) (Nat.le_of_eq (Nat.zero_add _)) (Nat.le_of_eq (Nat.zero_add _)) ?_
      refine q_top (y := nI 0) hrtp ?_
      refine r_istore_n (pc2 := 6) d_X_twoRowsTrouble_5 rfl rfl (Nat.le_of_ble_eq_true rfl) ?_
      refine r_aload_n (x := some 0) (pc2 := 7) d_X_twoRowsTrouble_6 rfl rfl ?_
      refine r_iload_n (pc2 := 8) d_X_twoRowsTrouble_7 rfl rfl ?_
      refine q_callv (M2 := mi_X_rowTrouble) (pc2 := 11) d_X_twoRowsTrouble_8 rfl k_X_83 cm_X_rowTrouble cv_X_rowTrouble (sh_0 hS) (by decide) rfl rfl rfl (Nat.le_of_ble_eq_true rfl) (c_X_rowTrouble hS hR hV hH (s := q) (by omega) (by omega)) (d2 := d - 1) (by omega) (Nat.le_of_eq (Nat.zero_add _)) (Nat.le_of_eq (Nat.zero_add _)) ?_
      refine q_top (y := (-33 : Int32)) hrtq ?_
      refine r_istore (pc2 := 13) d_X_twoRowsTrouble_11 rfl (Nat.le_of_ble_eq_true rfl) ?_
      refine r_iload_n (pc2 := 14) d_X_twoRowsTrouble_13 rfl rfl ?_
      refine r_bipush (v := (-32 : Int32)) (pc2 := 16) d_X_twoRowsTrouble_14 rfl (by decide) ?_
      refine q_icmp_eq (tgt := 26) (A := (0 : Int)) (B := (-32 : Int)) (pc2 := 19) d_X_twoRowsTrouble_16 rfl rfl (nI_toInt (by omega)) (by decide) (fun c28 => ?_) (fun c28 => ?_)
      · exfalso; omega
      refine r_iload (pc2 := 21) d_X_twoRowsTrouble_19 rfl rfl ?_
      refine r_bipush (v := (-32 : Int32)) (pc2 := 23) d_X_twoRowsTrouble_21 rfl (by decide) ?_
      refine q_icmp_ne (tgt := 29) (A := (-33 : Int)) (B := (-32 : Int)) (pc2 := 26) d_X_twoRowsTrouble_23 rfl rfl (by decide) (by decide) (fun c29 => ?_) (fun c29 => ?_)
      rotate_left
      · exfalso; omega
      refine r_iload_n (pc2 := 30) d_X_twoRowsTrouble_29 rfl rfl ?_
      refine r_bipush (v := (-33 : Int32)) (pc2 := 32) d_X_twoRowsTrouble_30 rfl (by decide) ?_
      refine q_icmp_eq (tgt := 42) (A := (0 : Int)) (B := (-33 : Int)) (pc2 := 35) d_X_twoRowsTrouble_32 rfl rfl (nI_toInt (by omega)) (by decide) (fun c30 => ?_) (fun c30 => ?_)
      · exfalso; omega
      refine r_iload (pc2 := 37) d_X_twoRowsTrouble_35 rfl rfl ?_
      refine r_bipush (v := (-33 : Int32)) (pc2 := 39) d_X_twoRowsTrouble_37 rfl (by decide) ?_
      refine q_icmp_ne (tgt := 45) (A := (-33 : Int)) (B := (-33 : Int)) (pc2 := 42) d_X_twoRowsTrouble_39 rfl rfl (by decide) (by decide) (fun c31 => ?_) (fun c31 => ?_)
      · exfalso; omega
      refine r_bipush (v := (-33 : Int32)) (pc2 := 44) d_X_twoRowsTrouble_42 rfl (by decide) ?_
      refine Run.ret (some (.int ((-33 : Int32)))) d_X_twoRowsTrouble_44 ⟨_, rfl⟩ ?_
      first | (exfalso; omega) | exact ⟨by unfold twN; (repeat (first | rw [if_pos (by omega)] | rw [if_neg (by omega)])); (try rfl), rfl⟩
  · obtain ⟨hap, hk3p, hk8p⟩ := SH1.ci hV (show bbp + nnp < nt by omega) hsop
    have hrtp : rtN (so p) = -33 := by unfold rtN; rw [if_pos (by omega)]
    have hmmp := hcop.2.2.1.2
    rcases hH q (by omega) with ⟨haq, h0q, h3q⟩ | ⟨haq, h0q, h1q, ⟨zzq, hzq, hz40q⟩, h3q, hLq⟩ | ⟨ccq, mmq, bbq, nnq, h3q, hcoq, hnmq, hbmq, h0q, h4q, htzq, hsoq⟩
    · have hrtq : rtN (so q) = -34 := by unfold rtN; rw [if_neg (by omega), if_pos (by omega)]
      refine r_aload_n (x := some 0) (pc2 := 1) d_X_twoRowsTrouble_0 rfl rfl ?_
      refine r_iload_n (pc2 := 2) d_X_twoRowsTrouble_1 rfl rfl ?_
      refine q_callv (M2 := mi_X_rowTrouble) (pc2 := 5) d_X_twoRowsTrouble_2 rfl k_X_83 cm_X_rowTrouble cv_X_rowTrouble (sh_0 hS) (by decide) rfl rfl rfl (Nat.le_of_ble_eq_true rfl) (c_X_rowTrouble hS hR hV hH (s := p) (by omega) (by omega)) (d2 := d - 1) (by omega) (Nat.le_of_eq (Nat.zero_add _)) (Nat.le_of_eq (Nat.zero_add _)) ?_
      refine q_top (y := (-33 : Int32)) hrtp ?_
      refine r_istore_n (pc2 := 6) d_X_twoRowsTrouble_5 rfl rfl (Nat.le_of_ble_eq_true rfl) ?_
      refine r_aload_n (x := some 0) (pc2 := 7) d_X_twoRowsTrouble_6 rfl rfl ?_
      refine r_iload_n (pc2 := 8) d_X_twoRowsTrouble_7 rfl rfl ?_
      refine q_callv (M2 := mi_X_rowTrouble) (pc2 := 11) d_X_twoRowsTrouble_8 rfl k_X_83 cm_X_rowTrouble cv_X_rowTrouble (sh_0 hS) (by decide) rfl rfl rfl (Nat.le_of_ble_eq_true rfl) (c_X_rowTrouble hS hR hV hH (s := q) (by omega) (by omega)) (d2 := d - 1) (by omega) (Nat.le_of_eq (Nat.zero_add _)) (Nat.le_of_eq (Nat.zero_add _)) ?_
      refine q_top (y := (-34 : Int32)) hrtq ?_
      refine r_istore (pc2 := 13) d_X_twoRowsTrouble_11 rfl (Nat.le_of_ble_eq_true rfl) ?_
      refine r_iload_n (pc2 := 14) d_X_twoRowsTrouble_13 rfl rfl ?_
      refine r_bipush (v := (-32 : Int32)) (pc2 := 16) d_X_twoRowsTrouble_14 rfl (by decide) ?_
      refine q_icmp_eq (tgt := 26) (A := (-33 : Int)) (B := (-32 : Int)) (pc2 := 19) d_X_twoRowsTrouble_16 rfl rfl (by decide) (by decide) (fun c32 => ?_) (fun c32 => ?_)
      · exfalso; omega
      refine r_iload (pc2 := 21) d_X_twoRowsTrouble_19 rfl rfl ?_
      refine r_bipush (v := (-32 : Int32)) (pc2 := 23) d_X_twoRowsTrouble_21 rfl (by decide) ?_
      refine q_icmp_ne (tgt := 29) (A := (-34 : Int)) (B := (-32 : Int)) (pc2 := 26) d_X_twoRowsTrouble_23 rfl rfl (by decide) (by decide) (fun c33 => ?_) (fun c33 => ?_)
      rotate_left
      · exfalso; omega
      refine r_iload_n (pc2 := 30) d_X_twoRowsTrouble_29 rfl rfl ?_
      refine r_bipush (v := (-33 : Int32)) (pc2 := 32) d_X_twoRowsTrouble_30 rfl (by decide) ?_
      refine q_icmp_eq (tgt := 42) (A := (-33 : Int)) (B := (-33 : Int)) (pc2 := 35) d_X_twoRowsTrouble_32 rfl rfl (by decide) (by decide) (fun c34 => ?_) (fun c34 => ?_)
      rotate_left
      · exfalso; omega
      refine r_bipush (v := (-33 : Int32)) (pc2 := 44) d_X_twoRowsTrouble_42 rfl (by decide) ?_
      refine Run.ret (some (.int ((-33 : Int32)))) d_X_twoRowsTrouble_44 ⟨_, rfl⟩ ?_
      first | (exfalso; omega) | exact ⟨by unfold twN; (repeat (first | rw [if_pos (by omega)] | rw [if_neg (by omega)])); (try rfl), rfl⟩
    · have hrtq : rtN (so q) = nI 0 := by unfold rtN; rw [if_neg (by omega), if_neg (by omega)]; rfl
      have hziq : (sz q).toInt = (zzq : Int) := by rw [hzq]; exact nI_toInt (by omega)
      refine r_aload_n (x := some 0) (pc2 := 1) d_X_twoRowsTrouble_0 rfl rfl ?_
      refine r_iload_n (pc2 := 2) d_X_twoRowsTrouble_1 rfl rfl ?_
      refine q_callv (M2 := mi_X_rowTrouble) (pc2 := 5) d_X_twoRowsTrouble_2 rfl k_X_83 cm_X_rowTrouble cv_X_rowTrouble (sh_0 hS) (by decide) rfl rfl rfl (Nat.le_of_ble_eq_true rfl) (c_X_rowTrouble hS hR hV hH (s := p) (by omega) (by omega)) (d2 := d - 1) (by omega) (Nat.le_of_eq (Nat.zero_add _)) (Nat.le_of_eq (Nat.zero_add _)) ?_
      refine q_top (y := (-33 : Int32)) hrtp ?_
      refine r_istore_n (pc2 := 6) d_X_twoRowsTrouble_5 rfl rfl (Nat.le_of_ble_eq_true rfl) ?_
      refine r_aload_n (x := some 0) (pc2 := 7) d_X_twoRowsTrouble_6 rfl rfl ?_
      refine r_iload_n (pc2 := 8) d_X_twoRowsTrouble_7 rfl rfl ?_
      refine q_callv (M2 := mi_X_rowTrouble) (pc2 := 11) d_X_twoRowsTrouble_8 rfl k_X_83 cm_X_rowTrouble cv_X_rowTrouble (sh_0 hS) (by decide) rfl rfl rfl (Nat.le_of_ble_eq_true rfl) (c_X_rowTrouble hS hR hV hH (s := q) (by omega) (by omega)) (d2 := d - 1) (by omega) (Nat.le_of_eq (Nat.zero_add _)) (Nat.le_of_eq (Nat.zero_add _)) ?_
      refine q_top (y := nI 0) hrtq ?_
      refine r_istore (pc2 := 13) d_X_twoRowsTrouble_11 rfl (Nat.le_of_ble_eq_true rfl) ?_
      refine r_iload_n (pc2 := 14) d_X_twoRowsTrouble_13 rfl rfl ?_
      refine r_bipush (v := (-32 : Int32)) (pc2 := 16) d_X_twoRowsTrouble_14 rfl (by decide) ?_
      refine q_icmp_eq (tgt := 26) (A := (-33 : Int)) (B := (-32 : Int)) (pc2 := 19) d_X_twoRowsTrouble_16 rfl rfl (by decide) (by decide) (fun c35 => ?_) (fun c35 => ?_)
      · exfalso; omega
      refine r_iload (pc2 := 21) d_X_twoRowsTrouble_19 rfl rfl ?_
      refine r_bipush (v := (-32 : Int32)) (pc2 := 23) d_X_twoRowsTrouble_21 rfl (by decide) ?_
      refine q_icmp_ne (tgt := 29) (A := (0 : Int)) (B := (-32 : Int)) (pc2 := 26) d_X_twoRowsTrouble_23 rfl rfl (nI_toInt (by omega)) (by decide) (fun c36 => ?_) (fun c36 => ?_)
      rotate_left
      · exfalso; omega
      refine r_iload_n (pc2 := 30) d_X_twoRowsTrouble_29 rfl rfl ?_
      refine r_bipush (v := (-33 : Int32)) (pc2 := 32) d_X_twoRowsTrouble_30 rfl (by decide) ?_
      refine q_icmp_eq (tgt := 42) (A := (-33 : Int)) (B := (-33 : Int)) (pc2 := 35) d_X_twoRowsTrouble_32 rfl rfl (by decide) (by decide) (fun c37 => ?_) (fun c37 => ?_)
      rotate_left
      · exfalso; omega
      refine r_bipush (v := (-33 : Int32)) (pc2 := 44) d_X_twoRowsTrouble_42 rfl (by decide) ?_
      refine Run.ret (some (.int ((-33 : Int32)))) d_X_twoRowsTrouble_44 ⟨_, rfl⟩ ?_
      first | (exfalso; omega) | exact ⟨by unfold twN; (repeat (first | rw [if_pos (by omega)] | rw [if_neg (by omega)])); (try rfl), rfl⟩
    · obtain ⟨haq, hk3q, hk8q⟩ := SH1.ci hV (show bbq + nnq < nt by omega) hsoq
      have hrtq : rtN (so q) = -33 := by unfold rtN; rw [if_pos (by omega)]
      have hmmq := hcoq.2.2.1.2
      refine r_aload_n (x := some 0) (pc2 := 1) d_X_twoRowsTrouble_0 rfl rfl ?_
      refine r_iload_n (pc2 := 2) d_X_twoRowsTrouble_1 rfl rfl ?_
      refine q_callv (M2 := mi_X_rowTrouble) (pc2 := 5) d_X_twoRowsTrouble_2 rfl k_X_83 cm_X_rowTrouble cv_X_rowTrouble (sh_0 hS) (by decide) rfl rfl rfl (Nat.le_of_ble_eq_true rfl) (c_X_rowTrouble hS hR hV hH (s := p) (by omega) (by omega)) (d2 := d - 1) (by omega) (Nat.le_of_eq (Nat.zero_add _)) (Nat.le_of_eq (Nat.zero_add _)) ?_
      refine q_top (y := (-33 : Int32)) hrtp ?_
      refine r_istore_n (pc2 := 6) d_X_twoRowsTrouble_5 rfl rfl (Nat.le_of_ble_eq_true rfl) ?_
      refine r_aload_n (x := some 0) (pc2 := 7) d_X_twoRowsTrouble_6 rfl rfl ?_
      refine r_iload_n (pc2 := 8) d_X_twoRowsTrouble_7 rfl rfl ?_
      refine q_callv (M2 := mi_X_rowTrouble) (pc2 := 11) d_X_twoRowsTrouble_8 rfl k_X_83 cm_X_rowTrouble cv_X_rowTrouble (sh_0 hS) (by decide) rfl rfl rfl (Nat.le_of_ble_eq_true rfl) (c_X_rowTrouble hS hR hV hH (s := q) (by omega) (by omega)) (d2 := d - 1) (by omega) (Nat.le_of_eq (Nat.zero_add _)) (Nat.le_of_eq (Nat.zero_add _)) ?_
      refine q_top (y := (-33 : Int32)) hrtq ?_
      refine r_istore (pc2 := 13) d_X_twoRowsTrouble_11 rfl (Nat.le_of_ble_eq_true rfl) ?_
      refine r_iload_n (pc2 := 14) d_X_twoRowsTrouble_13 rfl rfl ?_
      refine r_bipush (v := (-32 : Int32)) (pc2 := 16) d_X_twoRowsTrouble_14 rfl (by decide) ?_
      refine q_icmp_eq (tgt := 26) (A := (-33 : Int)) (B := (-32 : Int)) (pc2 := 19) d_X_twoRowsTrouble_16 rfl rfl (by decide) (by decide) (fun c38 => ?_) (fun c38 => ?_)
      · exfalso; omega
      refine r_iload (pc2 := 21) d_X_twoRowsTrouble_19 rfl rfl ?_
      refine r_bipush (v := (-32 : Int32)) (pc2 := 23) d_X_twoRowsTrouble_21 rfl (by decide) ?_
      refine q_icmp_ne (tgt := 29) (A := (-33 : Int)) (B := (-32 : Int)) (pc2 := 26) d_X_twoRowsTrouble_23 rfl rfl (by decide) (by decide) (fun c39 => ?_) (fun c39 => ?_)
      rotate_left
      · exfalso; omega
      refine r_iload_n (pc2 := 30) d_X_twoRowsTrouble_29 rfl rfl ?_
      refine r_bipush (v := (-33 : Int32)) (pc2 := 32) d_X_twoRowsTrouble_30 rfl (by decide) ?_
      refine q_icmp_eq (tgt := 42) (A := (-33 : Int)) (B := (-33 : Int)) (pc2 := 35) d_X_twoRowsTrouble_32 rfl rfl (by decide) (by decide) (fun c40 => ?_) (fun c40 => ?_)
      rotate_left
      · exfalso; omega
      refine r_bipush (v := (-33 : Int32)) (pc2 := 44) d_X_twoRowsTrouble_42 rfl (by decide) ?_
      refine Run.ret (some (.int ((-33 : Int32)))) d_X_twoRowsTrouble_44 ⟨_, rfl⟩ ?_
      first | (exfalso; omega) | exact ⟨by unfold twN; (repeat (first | rw [if_pos (by omega)] | rw [if_neg (by omega)])); (try rfl), rfl⟩
theorem c_X_copy {d : Nat} {I : Nat → Nat → Int32} {R : Nat → Nat → Option Nat} {L : Nat → Nat → Int64} {sh : Nat → Nat × Nat} {N : Nat} (hS : ShOK sh) (hR : RfOK R) {tK tF tC tS : Nat → Int32} {nt : Nat} (hV : TV tK tF tC nt) {so sz tz : Nat → Int32} {E : Nat → Int64} (hH : SHR tK tF tC tS I R L sh nt so sz tz E) {p q i j n : Int32} (hd : 10 ≤ d) : Mt mi_X_copy d 0 0 [.ref 0, .int p, .int q, .int i, .int j, .int n] (I, R, L, sh, N) (XH I R L sh N (o_copy so sz p q i j n) (fun K R' L' => FH q.toInt.toNat I K R R' L L' ∧ ∀ (z : Int32) (E2 : Nat → Int64), (∀ x, x < 40 → E2 (40 * q.toInt.toNat + x) = if j.toInt.toNat ≤ x ∧ x < j.toInt.toNat + n.toInt.toNat then E (40 * p.toInt.toNat + (i.toInt.toNat + (x - j.toInt.toNat))) else E (40 * q.toInt.toNat + x)) → SH1 tK tF tC tS K R' L' sh nt q.toInt.toNat (so q.toInt.toNat) (sz q.toInt.toNat) z E2)) := by
  have hm1 : (-1 : Int32).toInt = -1 := by decide
  refine Mt.of pn_X (Nat.le_of_ble_eq_true rfl) ?_
  show Run mi_X_copy d 0 0 0 [(0, .ref 0), (1, .int p), (2, .int q), (3, .int i), (4, .int j), (5, .int n)] [] (I, R, L, sh, N) _
  by_cases h7 : (0 ≤ p.toInt ∧ p.toInt ≤ 7) ∧ 0 ≤ q.toInt ∧ q.toInt ≤ 7
  · obtain ⟨h7p, h7q⟩ := h7
    obtain ⟨pN, hpN, rfl, epN⟩ : ∃ a : Nat, a < 8 ∧ p = nI a ∧ p.toInt = (a : Int) := ⟨p.toInt.toNat, by omega, eq_nI (by omega), by omega⟩
    obtain ⟨qN, hqN, rfl, eqN⟩ : ∃ a : Nat, a < 8 ∧ q = nI a ∧ q.toInt = (a : Int) := ⟨q.toInt.toNat, by omega, eq_nI (by omega), by omega⟩
    rcases hH pN (by omega) with ⟨hap, h0p, h3p⟩ | ⟨hap, h0p, h1p, ⟨zzp, hzp, hz40p⟩, h3p, hLp⟩ | ⟨ccp, mmp, bbp, nnp, h3p, hcop, hnmp, hbmp, h0p, h4p, htzp, hsop⟩
    · have hrtp : rtN (so pN) = -34 := by unfold rtN; rw [if_neg (by omega), if_pos (by omega)]
      rcases hH qN (by omega) with ⟨haq, h0q, h3q⟩ | ⟨haq, h0q, h1q, ⟨zzq, hzq, hz40q⟩, h3q, hLq⟩ | ⟨ccq, mmq, bbq, nnq, h3q, hcoq, hnmq, hbmq, h0q, h4q, htzq, hsoq⟩
      · have hrtq : rtN (so qN) = -34 := by unfold rtN; rw [if_neg (by omega), if_pos (by omega)]
        refine r_aload_n (x := some 0) (pc2 := 1) d_X_copy_0 rfl rfl ?_
        refine r_iload_n (pc2 := 2) d_X_copy_1 rfl rfl ?_
        refine r_iload_n (pc2 := 3) d_X_copy_2 rfl rfl ?_
        refine q_callv (M2 := mi_X_twoRowsTrouble) (pc2 := 6) d_X_copy_3 rfl k_X_93 cm_X_twoRowsTrouble cv_X_twoRowsTrouble (sh_0 hS) (by decide) rfl rfl rfl (Nat.le_of_ble_eq_true rfl) (c_X_twoN hS hR hV hH (p := pN) (q := qN) (by omega) (by omega) (by omega)) (d2 := d - 1) (by omega) (Nat.le_of_eq (Nat.zero_add _)) (Nat.le_of_eq (Nat.zero_add _)) ?_
        refine q_top (y := (-34 : Int32)) (by unfold twN; (repeat (first | rw [if_pos (by omega)] | rw [if_neg (by omega)])); (try rfl)) ?_
        refine r_istore (pc2 := 8) d_X_copy_6 rfl (Nat.le_of_ble_eq_true rfl) ?_
        refine r_iload (pc2 := 10) d_X_copy_8 rfl rfl ?_
        refine q_if_eq (tgt := 20) (A := (-34 : Int)) (pc2 := 13) d_X_copy_10 rfl rfl (by decide) (fun c1 => ?_) (fun c1 => ?_)
        · exfalso; omega
        refine r_aload_n (x := some 0) (pc2 := 14) d_X_copy_13 rfl rfl ?_
        refine r_iload (pc2 := 16) d_X_copy_14 rfl rfl ?_
        refine q_callv (M2 := mi_X_refuse) (pc2 := 19) d_X_copy_16 rfl k_X_75 cm_X_refuse cv_X_refuse (sh_0 hS) (by decide) rfl rfl rfl (Nat.le_of_ble_eq_true rfl) (c_X_refuse_2 (J := I) hS hR) (d2 := d - 1) (by omega) (Nat.le_of_eq (Nat.zero_add _)) (Nat.le_of_eq (Nat.zero_add _)) ?_
        obtain ⟨I2, hI2⟩ : ∃ x, x = u2 I 744 2 (I 744 2 + nI 1) := ⟨_, rfl⟩
        rw [← hI2]
        refine Run.ret (some (.int ((-34 : Int32)))) d_X_copy_19 ⟨_, rfl⟩ ?_
        first | (exfalso; omega) | exact XH.bad hS 2 (by unfold o_copy; (try simp only [epN, eqN, Int.toNat_natCast]); (repeat (first | rw [if_pos (by omega)] | rw [if_neg (by omega)]))) (by decide) FrX.rf hI2
      · have hrtq : rtN (so qN) = nI 0 := by unfold rtN; rw [if_neg (by omega), if_neg (by omega)]; rfl
        have hziq : (sz qN).toInt = (zzq : Int) := by rw [hzq]; exact nI_toInt (by omega)
        refine r_aload_n (x := some 0) (pc2 := 1) d_X_copy_0 rfl rfl ?_
        refine r_iload_n (pc2 := 2) d_X_copy_1 rfl rfl ?_
        refine r_iload_n (pc2 := 3) d_X_copy_2 rfl rfl ?_
        refine q_callv (M2 := mi_X_twoRowsTrouble) (pc2 := 6) d_X_copy_3 rfl k_X_93 cm_X_twoRowsTrouble cv_X_twoRowsTrouble (sh_0 hS) (by decide) rfl rfl rfl (Nat.le_of_ble_eq_true rfl) (c_X_twoN hS hR hV hH (p := pN) (q := qN) (by omega) (by omega) (by omega)) (d2 := d - 1) (by omega) (Nat.le_of_eq (Nat.zero_add _)) (Nat.le_of_eq (Nat.zero_add _)) ?_
        refine q_top (y := (-34 : Int32)) (by unfold twN; (repeat (first | rw [if_pos (by omega)] | rw [if_neg (by omega)])); (try rfl)) ?_
        refine r_istore (pc2 := 8) d_X_copy_6 rfl (Nat.le_of_ble_eq_true rfl) ?_
        refine r_iload (pc2 := 10) d_X_copy_8 rfl rfl ?_
        refine q_if_eq (tgt := 20) (A := (-34 : Int)) (pc2 := 13) d_X_copy_10 rfl rfl (by decide) (fun c3 => ?_) (fun c3 => ?_)
        · exfalso; omega
        refine r_aload_n (x := some 0) (pc2 := 14) d_X_copy_13 rfl rfl ?_
        refine r_iload (pc2 := 16) d_X_copy_14 rfl rfl ?_
        refine q_callv (M2 := mi_X_refuse) (pc2 := 19) d_X_copy_16 rfl k_X_75 cm_X_refuse cv_X_refuse (sh_0 hS) (by decide) rfl rfl rfl (Nat.le_of_ble_eq_true rfl) (c_X_refuse_2 (J := I) hS hR) (d2 := d - 1) (by omega) (Nat.le_of_eq (Nat.zero_add _)) (Nat.le_of_eq (Nat.zero_add _)) ?_
        obtain ⟨I4, hI4⟩ : ∃ x, x = u2 I 744 2 (I 744 2 + nI 1) := ⟨_, rfl⟩
        rw [← hI4]
        refine Run.ret (some (.int ((-34 : Int32)))) d_X_copy_19 ⟨_, rfl⟩ ?_
        first | (exfalso; omega) | exact XH.bad hS 2 (by unfold o_copy; (try simp only [epN, eqN, hziq, Int.toNat_natCast]); (repeat (first | rw [if_pos (by omega)] | rw [if_neg (by omega)]))) (by decide) FrX.rf hI4
      · obtain ⟨haq, hk3q, hk8q⟩ := SH1.ci hV (show bbq + nnq < nt by omega) hsoq
        have hrtq : rtN (so qN) = -33 := by unfold rtN; rw [if_pos (by omega)]
        have hmmq := hcoq.2.2.1.2
        refine r_aload_n (x := some 0) (pc2 := 1) d_X_copy_0 rfl rfl ?_
        refine r_iload_n (pc2 := 2) d_X_copy_1 rfl rfl ?_
        refine r_iload_n (pc2 := 3) d_X_copy_2 rfl rfl ?_
        refine q_callv (M2 := mi_X_twoRowsTrouble) (pc2 := 6) d_X_copy_3 rfl k_X_93 cm_X_twoRowsTrouble cv_X_twoRowsTrouble (sh_0 hS) (by decide) rfl rfl rfl (Nat.le_of_ble_eq_true rfl) (c_X_twoN hS hR hV hH (p := pN) (q := qN) (by omega) (by omega) (by omega)) (d2 := d - 1) (by omega) (Nat.le_of_eq (Nat.zero_add _)) (Nat.le_of_eq (Nat.zero_add _)) ?_
        refine q_top (y := (-33 : Int32)) (by unfold twN; (repeat (first | rw [if_pos (by omega)] | rw [if_neg (by omega)])); (try rfl)) ?_
        refine r_istore (pc2 := 8) d_X_copy_6 rfl (Nat.le_of_ble_eq_true rfl) ?_
        refine r_iload (pc2 := 10) d_X_copy_8 rfl rfl ?_
        refine q_if_eq (tgt := 20) (A := (-33 : Int)) (pc2 := 13) d_X_copy_10 rfl rfl (by decide) (fun c5 => ?_) (fun c5 => ?_)
        · exfalso; omega
        refine r_aload_n (x := some 0) (pc2 := 14) d_X_copy_13 rfl rfl ?_
        refine r_iload (pc2 := 16) d_X_copy_14 rfl rfl ?_
        refine q_callv (M2 := mi_X_refuse) (pc2 := 19) d_X_copy_16 rfl k_X_75 cm_X_refuse cv_X_refuse (sh_0 hS) (by decide) rfl rfl rfl (Nat.le_of_ble_eq_true rfl) (c_X_refuse_1 (J := I) hS hR) (d2 := d - 1) (by omega) (Nat.le_of_eq (Nat.zero_add _)) (Nat.le_of_eq (Nat.zero_add _)) ?_
        obtain ⟨I6, hI6⟩ : ∃ x, x = u2 I 744 1 (I 744 1 + nI 1) := ⟨_, rfl⟩
        rw [← hI6]
        refine Run.ret (some (.int ((-33 : Int32)))) d_X_copy_19 ⟨_, rfl⟩ ?_
        first | (exfalso; omega) | exact XH.bad hS 1 (by unfold o_copy; (try simp only [epN, eqN, Int.toNat_natCast]); (repeat (first | rw [if_pos (by omega)] | rw [if_neg (by omega)]))) (by decide) FrX.rf hI6
    · have hrtp : rtN (so pN) = nI 0 := by unfold rtN; rw [if_neg (by omega), if_neg (by omega)]; rfl
      have hzip : (sz pN).toInt = (zzp : Int) := by rw [hzp]; exact nI_toInt (by omega)
      rcases hH qN (by omega) with ⟨haq, h0q, h3q⟩ | ⟨haq, h0q, h1q, ⟨zzq, hzq, hz40q⟩, h3q, hLq⟩ | ⟨ccq, mmq, bbq, nnq, h3q, hcoq, hnmq, hbmq, h0q, h4q, htzq, hsoq⟩
      · have hrtq : rtN (so qN) = -34 := by unfold rtN; rw [if_neg (by omega), if_pos (by omega)]
        refine r_aload_n (x := some 0) (pc2 := 1) d_X_copy_0 rfl rfl ?_
        refine r_iload_n (pc2 := 2) d_X_copy_1 rfl rfl ?_
        refine r_iload_n (pc2 := 3) d_X_copy_2 rfl rfl ?_
        refine q_callv (M2 := mi_X_twoRowsTrouble) (pc2 := 6) d_X_copy_3 rfl k_X_93 cm_X_twoRowsTrouble cv_X_twoRowsTrouble (sh_0 hS) (by decide) rfl rfl rfl (Nat.le_of_ble_eq_true rfl) (c_X_twoN hS hR hV hH (p := pN) (q := qN) (by omega) (by omega) (by omega)) (d2 := d - 1) (by omega) (Nat.le_of_eq (Nat.zero_add _)) (Nat.le_of_eq (Nat.zero_add _)) ?_
        refine q_top (y := (-34 : Int32)) (by unfold twN; (repeat (first | rw [if_pos (by omega)] | rw [if_neg (by omega)])); (try rfl)) ?_
        refine r_istore (pc2 := 8) d_X_copy_6 rfl (Nat.le_of_ble_eq_true rfl) ?_
        refine r_iload (pc2 := 10) d_X_copy_8 rfl rfl ?_
        refine q_if_eq (tgt := 20) (A := (-34 : Int)) (pc2 := 13) d_X_copy_10 rfl rfl (by decide) (fun c7 => ?_) (fun c7 => ?_)
        · exfalso; omega
        refine r_aload_n (x := some 0) (pc2 := 14) d_X_copy_13 rfl rfl ?_
        refine r_iload (pc2 := 16) d_X_copy_14 rfl rfl ?_
        refine q_callv (M2 := mi_X_refuse) (pc2 := 19) d_X_copy_16 rfl k_X_75 cm_X_refuse cv_X_refuse (sh_0 hS) (by decide) rfl rfl rfl (Nat.le_of_ble_eq_true rfl) (c_X_refuse_2 (J := I) hS hR) (d2 := d - 1) (by omega) (Nat.le_of_eq (Nat.zero_add _)) (Nat.le_of_eq (Nat.zero_add _)) ?_
        obtain ⟨I8, hI8⟩ : ∃ x, x = u2 I 744 2 (I 744 2 + nI 1) := ⟨_, rfl⟩
        rw [← hI8]
        refine Run.ret (some (.int ((-34 : Int32)))) d_X_copy_19 ⟨_, rfl⟩ ?_
        first | (exfalso; omega) | exact XH.bad hS 2 (by unfold o_copy; (try simp only [epN, eqN, hzip, Int.toNat_natCast]); (repeat (first | rw [if_pos (by omega)] | rw [if_neg (by omega)]))) (by decide) FrX.rf hI8
      · have hrtq : rtN (so qN) = nI 0 := by unfold rtN; rw [if_neg (by omega), if_neg (by omega)]; rfl
        have hziq : (sz qN).toInt = (zzq : Int) := by rw [hzq]; exact nI_toInt (by omega)
        by_cases heq : (so pN).toInt = (so qN).toInt
        · skip
          refine r_aload_n (x := some 0) (pc2 := 1) d_X_copy_0 rfl rfl ?_
          refine r_iload_n (pc2 := 2) d_X_copy_1 rfl rfl ?_
          refine r_iload_n (pc2 := 3) d_X_copy_2 rfl rfl ?_
          refine q_callv (M2 := mi_X_twoRowsTrouble) (pc2 := 6) d_X_copy_3 rfl k_X_93 cm_X_twoRowsTrouble cv_X_twoRowsTrouble (sh_0 hS) (by decide) rfl rfl rfl (Nat.le_of_ble_eq_true rfl) (c_X_twoN hS hR hV hH (p := pN) (q := qN) (by omega) (by omega) (by omega)) (d2 := d - 1) (by omega) (Nat.le_of_eq (Nat.zero_add _)) (Nat.le_of_eq (Nat.zero_add _)) ?_
          refine q_top (y := nI 0) (by unfold twN; (repeat (first | rw [if_pos (by omega)] | rw [if_neg (by omega)])); (try rfl)) ?_
          refine r_istore (pc2 := 8) d_X_copy_6 rfl (Nat.le_of_ble_eq_true rfl) ?_
          refine r_iload (pc2 := 10) d_X_copy_8 rfl rfl ?_
          refine q_if_eq (tgt := 20) (A := (0 : Int)) (pc2 := 13) d_X_copy_10 rfl rfl (nI_toInt (by omega)) (fun c9 => ?_) (fun c9 => ?_)
          rotate_left
          · exfalso; omega
          refine r_aload_n (x := some 0) (pc2 := 21) d_X_copy_20 rfl rfl ?_
          refine q_getR (x := some 729) (pc2 := 24) d_X_copy_21 rfl k_X_42 rfl (sh_0 hS) (rf_0_7 hR) ?_
          refine r_iload_n (pc2 := 25) d_X_copy_24 rfl rfl ?_
          refine q_aaload (q := pN) (x := some (745 + 2 * pN)) (pc2 := 26) d_X_copy_25 rfl (sh_729 hS) (by decide) (by decide) (nI_toInt (by omega)) (by omega) ((rf_sf hR (show pN < 8 by omega)).1) ?_
          refine r_astore (x := some (745 + 2 * pN)) (pc2 := 28) d_X_copy_26 rfl (Nat.le_of_ble_eq_true rfl) ?_
          refine r_aload_n (x := some 0) (pc2 := 29) d_X_copy_28 rfl rfl ?_
          refine q_getR (x := some 729) (pc2 := 32) d_X_copy_29 rfl k_X_42 rfl (sh_0 hS) (rf_0_7 hR) ?_
          refine r_iload_n (pc2 := 33) d_X_copy_32 rfl rfl ?_
          refine q_aaload (q := qN) (x := some (745 + 2 * qN)) (pc2 := 34) d_X_copy_33 rfl (sh_729 hS) (by decide) (by decide) (nI_toInt (by omega)) (by omega) ((rf_sf hR (show qN < 8 by omega)).1) ?_
          refine r_astore (x := some (745 + 2 * qN)) (pc2 := 36) d_X_copy_34 rfl (Nat.le_of_ble_eq_true rfl) ?_
          refine r_aload (x := some (745 + 2 * pN)) (pc2 := 38) d_X_copy_36 rfl rfl ?_
          refine r_iload_n (pc2 := 39) d_X_copy_38 rfl rfl ?_
          refine r_iload (pc2 := 41) d_X_copy_39 rfl rfl ?_
          refine q_callv (M2 := mi_Sh_hasRange) (pc2 := 44) d_X_copy_41 rfl k_X_97 cm_Sh_hasRange cv_Sh_hasRange (sh_sf hS (show pN < 8 by omega)).1 (by decide) rfl rfl rfl (Nat.le_of_ble_eq_true rfl) (c_Sh_hasRange (J := I) (q := 745 + 2 * pN) (sh_sf hS (show pN < 8 by omega)).1 (h1p.trans hzp) hz40p (i := i) (n := n)) (d2 := d - 1) (by omega) (Nat.le_of_eq (Nat.zero_add _)) (Nat.le_of_eq (Nat.zero_add _)) ?_
          refine q_bif_eq (tgt := 59) (pc2 := 47) d_X_copy_44 rfl rfl (fun c10 => ?_) (fun c10 => ?_)
          · refine r_aload_n (x := some 0) (pc2 := 60) d_X_copy_59 rfl rfl ?_
            refine r_bipush (v := (-32 : Int32)) (pc2 := 62) d_X_copy_60 rfl (by decide) ?_
            refine q_callv (M2 := mi_X_refuse) (pc2 := 65) d_X_copy_62 rfl k_X_75 cm_X_refuse cv_X_refuse (sh_0 hS) (by decide) rfl rfl rfl (Nat.le_of_ble_eq_true rfl) (c_X_refuse_0 (J := I) hS hR) (d2 := d - 1) (by omega) (Nat.le_of_eq (Nat.zero_add _)) (Nat.le_of_eq (Nat.zero_add _)) ?_
            obtain ⟨I11, hI11⟩ : ∃ x, x = u2 I 744 0 (I 744 0 + nI 1) := ⟨_, rfl⟩
            rw [← hI11]
            refine Run.ret (some (.int ((-32 : Int32)))) d_X_copy_65 ⟨_, rfl⟩ ?_
            first | (exfalso; omega) | exact XH.bad hS 0 (by unfold o_copy; (try simp only [epN, eqN, hzip, hziq, Int.toNat_natCast]); (repeat (first | rw [if_pos (by omega)] | rw [if_neg (by omega)]))) (by decide) FrX.rf hI11
          · refine r_aload (x := some (745 + 2 * qN)) (pc2 := 49) d_X_copy_47 rfl rfl ?_
            refine r_iload (pc2 := 51) d_X_copy_49 rfl rfl ?_
            refine r_iload (pc2 := 53) d_X_copy_51 rfl rfl ?_
            refine q_callv (M2 := mi_Sh_hasRange) (pc2 := 56) d_X_copy_53 rfl k_X_97 cm_Sh_hasRange cv_Sh_hasRange (sh_sf hS (show qN < 8 by omega)).1 (by decide) rfl rfl rfl (Nat.le_of_ble_eq_true rfl) (c_Sh_hasRange (J := I) (q := 745 + 2 * qN) (sh_sf hS (show qN < 8 by omega)).1 (h1q.trans hzq) hz40q (i := j) (n := n)) (d2 := d - 1) (by omega) (Nat.le_of_eq (Nat.zero_add _)) (Nat.le_of_eq (Nat.zero_add _)) ?_
            refine q_bif_ne (tgt := 66) (pc2 := 59) d_X_copy_56 rfl rfl (fun c12 => ?_) (fun c12 => ?_)
            · obtain ⟨iN, hiN, rfl, eiN⟩ : ∃ a : Nat, a ≤ 40 ∧ i = nI a ∧ i.toInt = (a : Int) := ⟨i.toInt.toNat, by omega, eq_nI (by omega), by omega⟩
              obtain ⟨jN, hjN, rfl, ejN⟩ : ∃ a : Nat, a ≤ 40 ∧ j = nI a ∧ j.toInt = (a : Int) := ⟨j.toInt.toNat, by omega, eq_nI (by omega), by omega⟩
              obtain ⟨nN, hnN, rfl, enN⟩ : ∃ a : Nat, a ≤ 40 ∧ n = nI a ∧ n.toInt = (a : Int) := ⟨n.toInt.toNat, by omega, eq_nI (by omega), by omega⟩
              refine r_aload (x := some (745 + 2 * pN)) (pc2 := 68) d_X_copy_66 rfl rfl ?_
              refine q_getR (x := some (746 + 2 * pN)) (pc2 := 71) d_X_copy_68 rfl k_X_101 rfl (sh_sf hS (show pN < 8 by omega)).1 ((rf_sf hR (show pN < 8 by omega)).2) ?_
              refine r_iload_n (pc2 := 72) d_X_copy_71 rfl rfl ?_
              refine r_aload (x := some (745 + 2 * qN)) (pc2 := 74) d_X_copy_72 rfl rfl ?_
              refine q_getR (x := some (746 + 2 * qN)) (pc2 := 77) d_X_copy_74 rfl k_X_101 rfl (sh_sf hS (show qN < 8 by omega)).1 ((rf_sf hR (show qN < 8 by omega)).2) ?_
              refine r_iload (pc2 := 79) d_X_copy_77 rfl rfl ?_
              refine r_iload (pc2 := 81) d_X_copy_79 rfl rfl ?_
              refine r_copyL (SP := iN) (DP := jN) (K := nN) (pc2 := 84) d_X_copy_81 rfl k_X_105 ac_native ac_static iw_JS (sh_sf hS (show pN < 8 by omega)).2 (sh_sf hS (show qN < 8 by omega)).2 (nI_toInt (by omega)) (nI_toInt (by omega)) (nI_toInt (by omega)) (by omega) (by omega) (by omega) (Nat.le_of_ble_eq_true rfl) ?_
              obtain ⟨L13, hL13⟩ : ∃ x, x = cpyL L (746 + 2 * pN) iN (746 + 2 * qN) jN nN := ⟨_, rfl⟩
              rw [show cpyL L (746 + 2 * pN) iN (746 + 2 * qN) jN nN = L13 from hL13.symm]
              refine r_iload (pc2 := 86) d_X_copy_84 rfl rfl ?_
              refine Run.ret (some (.int (nI nN))) d_X_copy_86 ⟨_, rfl⟩ ?_
              refine XH.val (by unfold o_copy; simp only [epN, eqN, hzip, hziq, eiN, ejN, enN, Int.toNat_natCast]; (repeat (first | rw [if_pos (by omega)] | rw [if_neg (by omega)]))) ?_
              rw [epN, eqN, eiN, ejN, enN]; simp only [Int.toNat_natCast]
              refine ⟨⟨fun _ _ _ => rfl, ⟨fun _ _ _ => rfl, id⟩, fun a x q => by rw [hL13]; unfold cpyL; rw [if_neg (fun z => q z.1)]⟩, fun z E2 hE2 => Or.inr (Or.inl ⟨haq, h0q, h1q, ⟨zzq, hzq, hz40q⟩, h3q, fun x hx => ?_⟩)⟩
              rw [hE2 x hx, hL13]
              unfold cpyL
              by_cases y : jN ≤ x ∧ x < jN + nN
              · rw [if_pos ⟨rfl, y.1, y.2⟩, if_pos y]; exact hLp _ (by omega)
              · rw [if_neg (fun z => y z.2), if_neg y]; exact hLq x hx
            · refine r_aload_n (x := some 0) (pc2 := 60) d_X_copy_59 rfl rfl ?_
              refine r_bipush (v := (-32 : Int32)) (pc2 := 62) d_X_copy_60 rfl (by decide) ?_
              refine q_callv (M2 := mi_X_refuse) (pc2 := 65) d_X_copy_62 rfl k_X_75 cm_X_refuse cv_X_refuse (sh_0 hS) (by decide) rfl rfl rfl (Nat.le_of_ble_eq_true rfl) (c_X_refuse_0 (J := I) hS hR) (d2 := d - 1) (by omega) (Nat.le_of_eq (Nat.zero_add _)) (Nat.le_of_eq (Nat.zero_add _)) ?_
              obtain ⟨I14, hI14⟩ : ∃ x, x = u2 I 744 0 (I 744 0 + nI 1) := ⟨_, rfl⟩
              rw [← hI14]
              refine Run.ret (some (.int ((-32 : Int32)))) d_X_copy_65 ⟨_, rfl⟩ ?_
              first | (exfalso; omega) | exact XH.bad hS 0 (by unfold o_copy; (try simp only [epN, eqN, hzip, hziq, Int.toNat_natCast]); (repeat (first | rw [if_pos (by omega)] | rw [if_neg (by omega)]))) (by decide) FrX.rf hI14
        · skip
          refine r_aload_n (x := some 0) (pc2 := 1) d_X_copy_0 rfl rfl ?_
          refine r_iload_n (pc2 := 2) d_X_copy_1 rfl rfl ?_
          refine r_iload_n (pc2 := 3) d_X_copy_2 rfl rfl ?_
          refine q_callv (M2 := mi_X_twoRowsTrouble) (pc2 := 6) d_X_copy_3 rfl k_X_93 cm_X_twoRowsTrouble cv_X_twoRowsTrouble (sh_0 hS) (by decide) rfl rfl rfl (Nat.le_of_ble_eq_true rfl) (c_X_twoN hS hR hV hH (p := pN) (q := qN) (by omega) (by omega) (by omega)) (d2 := d - 1) (by omega) (Nat.le_of_eq (Nat.zero_add _)) (Nat.le_of_eq (Nat.zero_add _)) ?_
          refine q_top (y := (-33 : Int32)) (by unfold twN; (repeat (first | rw [if_pos (by omega)] | rw [if_neg (by omega)])); (try rfl)) ?_
          refine r_istore (pc2 := 8) d_X_copy_6 rfl (Nat.le_of_ble_eq_true rfl) ?_
          refine r_iload (pc2 := 10) d_X_copy_8 rfl rfl ?_
          refine q_if_eq (tgt := 20) (A := (-33 : Int)) (pc2 := 13) d_X_copy_10 rfl rfl (by decide) (fun c15 => ?_) (fun c15 => ?_)
          · exfalso; omega
          refine r_aload_n (x := some 0) (pc2 := 14) d_X_copy_13 rfl rfl ?_
          refine r_iload (pc2 := 16) d_X_copy_14 rfl rfl ?_
          refine q_callv (M2 := mi_X_refuse) (pc2 := 19) d_X_copy_16 rfl k_X_75 cm_X_refuse cv_X_refuse (sh_0 hS) (by decide) rfl rfl rfl (Nat.le_of_ble_eq_true rfl) (c_X_refuse_1 (J := I) hS hR) (d2 := d - 1) (by omega) (Nat.le_of_eq (Nat.zero_add _)) (Nat.le_of_eq (Nat.zero_add _)) ?_
          obtain ⟨I16, hI16⟩ : ∃ x, x = u2 I 744 1 (I 744 1 + nI 1) := ⟨_, rfl⟩
          rw [← hI16]
          refine Run.ret (some (.int ((-33 : Int32)))) d_X_copy_19 ⟨_, rfl⟩ ?_
          first | (exfalso; omega) | exact XH.bad hS 1 (by unfold o_copy; (try simp only [epN, eqN, hzip, hziq, Int.toNat_natCast]); (repeat (first | rw [if_pos (by omega)] | rw [if_neg (by omega)]))) (by decide) FrX.rf hI16
      · obtain ⟨haq, hk3q, hk8q⟩ := SH1.ci hV (show bbq + nnq < nt by omega) hsoq
        have hrtq : rtN (so qN) = -33 := by unfold rtN; rw [if_pos (by omega)]
        have hmmq := hcoq.2.2.1.2
        refine r_aload_n (x := some 0) (pc2 := 1) d_X_copy_0 rfl rfl ?_
        refine r_iload_n (pc2 := 2) d_X_copy_1 rfl rfl ?_
        refine r_iload_n (pc2 := 3) d_X_copy_2 rfl rfl ?_
        refine q_callv (M2 := mi_X_twoRowsTrouble) (pc2 := 6) d_X_copy_3 rfl k_X_93 cm_X_twoRowsTrouble cv_X_twoRowsTrouble (sh_0 hS) (by decide) rfl rfl rfl (Nat.le_of_ble_eq_true rfl) (c_X_twoN hS hR hV hH (p := pN) (q := qN) (by omega) (by omega) (by omega)) (d2 := d - 1) (by omega) (Nat.le_of_eq (Nat.zero_add _)) (Nat.le_of_eq (Nat.zero_add _)) ?_
        refine q_top (y := (-33 : Int32)) (by unfold twN; (repeat (first | rw [if_pos (by omega)] | rw [if_neg (by omega)])); (try rfl)) ?_
        refine r_istore (pc2 := 8) d_X_copy_6 rfl (Nat.le_of_ble_eq_true rfl) ?_
        refine r_iload (pc2 := 10) d_X_copy_8 rfl rfl ?_
        refine q_if_eq (tgt := 20) (A := (-33 : Int)) (pc2 := 13) d_X_copy_10 rfl rfl (by decide) (fun c17 => ?_) (fun c17 => ?_)
        · exfalso; omega
        refine r_aload_n (x := some 0) (pc2 := 14) d_X_copy_13 rfl rfl ?_
        refine r_iload (pc2 := 16) d_X_copy_14 rfl rfl ?_
        refine q_callv (M2 := mi_X_refuse) (pc2 := 19) d_X_copy_16 rfl k_X_75 cm_X_refuse cv_X_refuse (sh_0 hS) (by decide) rfl rfl rfl (Nat.le_of_ble_eq_true rfl) (c_X_refuse_1 (J := I) hS hR) (d2 := d - 1) (by omega) (Nat.le_of_eq (Nat.zero_add _)) (Nat.le_of_eq (Nat.zero_add _)) ?_
        obtain ⟨I18, hI18⟩ : ∃ x, x = u2 I 744 1 (I 744 1 + nI 1) := ⟨_, rfl⟩
        rw [← hI18]
        refine Run.ret (some (.int ((-33 : Int32)))) d_X_copy_19 ⟨_, rfl⟩ ?_
        first | (exfalso; omega) | exact XH.bad hS 1 (by unfold o_copy; (try simp only [epN, eqN, hzip, Int.toNat_natCast]); (repeat (first | rw [if_pos (by omega)] | rw [if_neg (by omega)]))) (by decide) FrX.rf hI18
    · obtain ⟨hap, hk3p, hk8p⟩ := SH1.ci hV (show bbp + nnp < nt by omega) hsop
      have hrtp : rtN (so pN) = -33 := by unfold rtN; rw [if_pos (by omega)]
      have hmmp := hcop.2.2.1.2
      rcases hH qN (by omega) with ⟨haq, h0q, h3q⟩ | ⟨haq, h0q, h1q, ⟨zzq, hzq, hz40q⟩, h3q, hLq⟩ | ⟨ccq, mmq, bbq, nnq, h3q, hcoq, hnmq, hbmq, h0q, h4q, htzq, hsoq⟩
      · have hrtq : rtN (so qN) = -34 := by unfold rtN; rw [if_neg (by omega), if_pos (by omega)]
        refine r_aload_n (x := some 0) (pc2 := 1) d_X_copy_0 rfl rfl ?_
        refine r_iload_n (pc2 := 2) d_X_copy_1 rfl rfl ?_
        refine r_iload_n (pc2 := 3) d_X_copy_2 rfl rfl ?_
        refine q_callv (M2 := mi_X_twoRowsTrouble) (pc2 := 6) d_X_copy_3 rfl k_X_93 cm_X_twoRowsTrouble cv_X_twoRowsTrouble (sh_0 hS) (by decide) rfl rfl rfl (Nat.le_of_ble_eq_true rfl) (c_X_twoN hS hR hV hH (p := pN) (q := qN) (by omega) (by omega) (by omega)) (d2 := d - 1) (by omega) (Nat.le_of_eq (Nat.zero_add _)) (Nat.le_of_eq (Nat.zero_add _)) ?_
        refine q_top (y := (-33 : Int32)) (by unfold twN; (repeat (first | rw [if_pos (by omega)] | rw [if_neg (by omega)])); (try rfl)) ?_
        refine r_istore (pc2 := 8) d_X_copy_6 rfl (Nat.le_of_ble_eq_true rfl) ?_
        refine r_iload (pc2 := 10) d_X_copy_8 rfl rfl ?_
        refine q_if_eq (tgt := 20) (A := (-33 : Int)) (pc2 := 13) d_X_copy_10 rfl rfl (by decide) (fun c19 => ?_) (fun c19 => ?_)
        · exfalso; omega
        refine r_aload_n (x := some 0) (pc2 := 14) d_X_copy_13 rfl rfl ?_
        refine r_iload (pc2 := 16) d_X_copy_14 rfl rfl ?_
        refine q_callv (M2 := mi_X_refuse) (pc2 := 19) d_X_copy_16 rfl k_X_75 cm_X_refuse cv_X_refuse (sh_0 hS) (by decide) rfl rfl rfl (Nat.le_of_ble_eq_true rfl) (c_X_refuse_1 (J := I) hS hR) (d2 := d - 1) (by omega) (Nat.le_of_eq (Nat.zero_add _)) (Nat.le_of_eq (Nat.zero_add _)) ?_
        obtain ⟨I20, hI20⟩ : ∃ x, x = u2 I 744 1 (I 744 1 + nI 1) := ⟨_, rfl⟩
        rw [← hI20]
        refine Run.ret (some (.int ((-33 : Int32)))) d_X_copy_19 ⟨_, rfl⟩ ?_
        first | (exfalso; omega) | exact XH.bad hS 1 (by unfold o_copy; (try simp only [epN, eqN, Int.toNat_natCast]); (repeat (first | rw [if_pos (by omega)] | rw [if_neg (by omega)]))) (by decide) FrX.rf hI20
      · have hrtq : rtN (so qN) = nI 0 := by unfold rtN; rw [if_neg (by omega), if_neg (by omega)]; rfl
        have hziq : (sz qN).toInt = (zzq : Int) := by rw [hzq]; exact nI_toInt (by omega)
        refine r_aload_n (x := some 0) (pc2 := 1) d_X_copy_0 rfl rfl ?_
        refine r_iload_n (pc2 := 2) d_X_copy_1 rfl rfl ?_
        refine r_iload_n (pc2 := 3) d_X_copy_2 rfl rfl ?_
        refine q_callv (M2 := mi_X_twoRowsTrouble) (pc2 := 6) d_X_copy_3 rfl k_X_93 cm_X_twoRowsTrouble cv_X_twoRowsTrouble (sh_0 hS) (by decide) rfl rfl rfl (Nat.le_of_ble_eq_true rfl) (c_X_twoN hS hR hV hH (p := pN) (q := qN) (by omega) (by omega) (by omega)) (d2 := d - 1) (by omega) (Nat.le_of_eq (Nat.zero_add _)) (Nat.le_of_eq (Nat.zero_add _)) ?_
        refine q_top (y := (-33 : Int32)) (by unfold twN; (repeat (first | rw [if_pos (by omega)] | rw [if_neg (by omega)])); (try rfl)) ?_
        refine r_istore (pc2 := 8) d_X_copy_6 rfl (Nat.le_of_ble_eq_true rfl) ?_
        refine r_iload (pc2 := 10) d_X_copy_8 rfl rfl ?_
        refine q_if_eq (tgt := 20) (A := (-33 : Int)) (pc2 := 13) d_X_copy_10 rfl rfl (by decide) (fun c21 => ?_) (fun c21 => ?_)
        · exfalso; omega
        refine r_aload_n (x := some 0) (pc2 := 14) d_X_copy_13 rfl rfl ?_
        refine r_iload (pc2 := 16) d_X_copy_14 rfl rfl ?_
        refine q_callv (M2 := mi_X_refuse) (pc2 := 19) d_X_copy_16 rfl k_X_75 cm_X_refuse cv_X_refuse (sh_0 hS) (by decide) rfl rfl rfl (Nat.le_of_ble_eq_true rfl) (c_X_refuse_1 (J := I) hS hR) (d2 := d - 1) (by omega) (Nat.le_of_eq (Nat.zero_add _)) (Nat.le_of_eq (Nat.zero_add _)) ?_
        obtain ⟨I22, hI22⟩ : ∃ x, x = u2 I 744 1 (I 744 1 + nI 1) := ⟨_, rfl⟩
        rw [← hI22]
        refine Run.ret (some (.int ((-33 : Int32)))) d_X_copy_19 ⟨_, rfl⟩ ?_
        first | (exfalso; omega) | exact XH.bad hS 1 (by unfold o_copy; (try simp only [epN, eqN, hziq, Int.toNat_natCast]); (repeat (first | rw [if_pos (by omega)] | rw [if_neg (by omega)]))) (by decide) FrX.rf hI22
      · obtain ⟨haq, hk3q, hk8q⟩ := SH1.ci hV (show bbq + nnq < nt by omega) hsoq
        have hrtq : rtN (so qN) = -33 := by unfold rtN; rw [if_pos (by omega)]
        have hmmq := hcoq.2.2.1.2
        refine r_aload_n (x := some 0) (pc2 := 1) d_X_copy_0 rfl rfl ?_
        refine r_iload_n (pc2 := 2) d_X_copy_1 rfl rfl ?_
        refine r_iload_n (pc2 := 3) d_X_copy_2 rfl rfl ?_
        refine q_callv (M2 := mi_X_twoRowsTrouble) (pc2 := 6) d_X_copy_3 rfl k_X_93 cm_X_twoRowsTrouble cv_X_twoRowsTrouble (sh_0 hS) (by decide) rfl rfl rfl (Nat.le_of_ble_eq_true rfl) (c_X_twoN hS hR hV hH (p := pN) (q := qN) (by omega) (by omega) (by omega)) (d2 := d - 1) (by omega) (Nat.le_of_eq (Nat.zero_add _)) (Nat.le_of_eq (Nat.zero_add _)) ?_
        refine q_top (y := (-33 : Int32)) (by unfold twN; (repeat (first | rw [if_pos (by omega)] | rw [if_neg (by omega)])); (try rfl)) ?_
        refine r_istore (pc2 := 8) d_X_copy_6 rfl (Nat.le_of_ble_eq_true rfl) ?_
        refine r_iload (pc2 := 10) d_X_copy_8 rfl rfl ?_
        refine q_if_eq (tgt := 20) (A := (-33 : Int)) (pc2 := 13) d_X_copy_10 rfl rfl (by decide) (fun c23 => ?_) (fun c23 => ?_)
        · exfalso; omega
        refine r_aload_n (x := some 0) (pc2 := 14) d_X_copy_13 rfl rfl ?_
        refine r_iload (pc2 := 16) d_X_copy_14 rfl rfl ?_
        refine q_callv (M2 := mi_X_refuse) (pc2 := 19) d_X_copy_16 rfl k_X_75 cm_X_refuse cv_X_refuse (sh_0 hS) (by decide) rfl rfl rfl (Nat.le_of_ble_eq_true rfl) (c_X_refuse_1 (J := I) hS hR) (d2 := d - 1) (by omega) (Nat.le_of_eq (Nat.zero_add _)) (Nat.le_of_eq (Nat.zero_add _)) ?_
        obtain ⟨I24, hI24⟩ : ∃ x, x = u2 I 744 1 (I 744 1 + nI 1) := ⟨_, rfl⟩
        rw [← hI24]
        refine Run.ret (some (.int ((-33 : Int32)))) d_X_copy_19 ⟨_, rfl⟩ ?_
        first | (exfalso; omega) | exact XH.bad hS 1 (by unfold o_copy; (try simp only [epN, eqN, Int.toNat_natCast]); (repeat (first | rw [if_pos (by omega)] | rw [if_neg (by omega)]))) (by decide) FrX.rf hI24
  · skip
    refine r_aload_n (x := some 0) (pc2 := 1) d_X_copy_0 rfl rfl ?_
    refine r_iload_n (pc2 := 2) d_X_copy_1 rfl rfl ?_
    refine r_iload_n (pc2 := 3) d_X_copy_2 rfl rfl ?_
    refine q_callv (M2 := mi_X_twoRowsTrouble) (pc2 := 6) d_X_copy_3 rfl k_X_93 cm_X_twoRowsTrouble cv_X_twoRowsTrouble (sh_0 hS) (by decide) rfl rfl rfl (Nat.le_of_ble_eq_true rfl) (c_X_twoB hS hR hV hH (by omega) (by omega)) (d2 := d - 1) (by omega) (Nat.le_of_eq (Nat.zero_add _)) (Nat.le_of_eq (Nat.zero_add _)) ?_
    refine r_istore (pc2 := 8) d_X_copy_6 rfl (Nat.le_of_ble_eq_true rfl) ?_
    refine r_iload (pc2 := 10) d_X_copy_8 rfl rfl ?_
    refine q_if_eq (tgt := 20) (A := (-32 : Int)) (pc2 := 13) d_X_copy_10 rfl rfl (by decide) (fun c25 => ?_) (fun c25 => ?_)
    · exfalso; omega
    refine r_aload_n (x := some 0) (pc2 := 14) d_X_copy_13 rfl rfl ?_
    refine r_iload (pc2 := 16) d_X_copy_14 rfl rfl ?_
    refine q_callv (M2 := mi_X_refuse) (pc2 := 19) d_X_copy_16 rfl k_X_75 cm_X_refuse cv_X_refuse (sh_0 hS) (by decide) rfl rfl rfl (Nat.le_of_ble_eq_true rfl) (c_X_refuse_0 (J := I) hS hR) (d2 := d - 1) (by omega) (Nat.le_of_eq (Nat.zero_add _)) (Nat.le_of_eq (Nat.zero_add _)) ?_
    obtain ⟨I26, hI26⟩ : ∃ x, x = u2 I 744 0 (I 744 0 + nI 1) := ⟨_, rfl⟩
    rw [← hI26]
    refine Run.ret (some (.int ((-32 : Int32)))) d_X_copy_19 ⟨_, rfl⟩ ?_
    first | (exfalso; omega) | exact XH.bad hS 0 (by unfold o_copy; (try simp only [Int.toNat_natCast]); (repeat (first | rw [if_pos (by omega)] | rw [if_neg (by omega)]))) (by decide) FrX.rf hI26
