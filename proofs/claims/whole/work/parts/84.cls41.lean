/-! THE CLASS: row, set, element, holds -/
def rtN (a : Int32) : Int32 := if 4 < a.toInt then -33 else if a.toInt < 0 then -34 else 0
theorem SH1.ci {K F C : Nat → Int32} {nt t : Nat} {a : Int32} (hV : TV K F C nt) (ht : t < nt) (h : a = nI 10 + K t) : a.toInt = 10 + (K t).toInt ∧ 3 ≤ (K t).toInt ∧ (K t).toInt ≤ 8 := by
  obtain ⟨⟨h1, h2⟩, -⟩ := hV t ht
  refine ⟨?_, h1, h2⟩
  rw [h]
  exact toInt_add_of (nI_toInt (by decide)) rfl (by omega) (by omega)
theorem c_X_rowTrouble {d : Nat} {I : Nat → Nat → Int32} {R : Nat → Nat → Option Nat} {L : Nat → Nat → Int64} {sh : Nat → Nat × Nat} {N : Nat} (hS : ShOK sh) (hR : RfOK R) {tK tF tC tS : Nat → Int32} {nt : Nat} (hV : TV tK tF tC nt) {so sz tz : Nat → Int32} {E : Nat → Int64} (hH : SHR tK tF tC tS I R L sh nt so sz tz E) {s : Nat} (hs : s < 8) (hd : 3 ≤ d) : Me mi_X_rowTrouble d 0 0 [.ref 0, .int (nI s)] (I, R, L, sh, N) (some (.int (rtN (so s)))) (I, R, L, sh, N) := by
  refine Mt.of pn_X (Nat.le_of_ble_eq_true rfl) ?_
  show Run mi_X_rowTrouble d 0 0 0 [(0, .ref 0), (1, .int (nI s))] [] (I, R, L, sh, N) _
  have hm1 : (-1 : Int32).toInt = -1 := by decide
  have hsi : (nI s).toInt = (s : Int) := nI_toInt (by omega)
  rcases hH s (by omega) with ⟨ha, h0, h3⟩ | ⟨ha, h0, h1, ⟨zz, hz, hz40⟩, h3, hL⟩ | ⟨cc, mm, bb, nn, h3, hco, hnm, hbm, h0, h4, htz, hso⟩
  · have hrt : rtN (so s) = -34 := by unfold rtN; rw [if_neg (by omega), if_pos (by omega)]
    refine r_aload_n (x := some 0) (pc2 := 1) d_X_rowTrouble_0 rfl rfl ?_
    refine r_iload_n (pc2 := 2) d_X_rowTrouble_1 rfl rfl ?_
    refine q_callv (M2 := mi_X_isShelf) (pc2 := 5) d_X_rowTrouble_2 rfl k_X_71 cm_X_isShelf cv_X_isShelf (sh_0 hS) (by decide) rfl rfl rfl (Nat.le_of_ble_eq_true rfl) (c_X_isShelf (s := nI s)) (d2 := d - 1) (by omega) (Nat.le_of_eq (Nat.zero_add _)) (Nat.le_of_eq (Nat.zero_add _)) ?_
    refine q_bif_ne (tgt := 11) (pc2 := 8) d_X_rowTrouble_5 rfl rfl (fun c1 => ?_) (fun c1 => ?_)
    · refine r_aload_n (x := some 0) (pc2 := 12) d_X_rowTrouble_11 rfl rfl ?_
      refine q_getR (x := some 729) (pc2 := 15) d_X_rowTrouble_12 rfl k_X_42 rfl (sh_0 hS) (rf_0_7 hR) ?_
      refine r_iload_n (pc2 := 16) d_X_rowTrouble_15 rfl rfl ?_
      refine q_aaload (q := s) (x := some (745 + 2 * s)) (pc2 := 17) d_X_rowTrouble_16 rfl (sh_729 hS) (by decide) (by decide) (nI_toInt (by omega)) (by omega) ((rf_sf hR (show s < 8 by omega)).1) ?_
      refine q_callv (M2 := mi_Sh_hasCondition) (pc2 := 20) d_X_rowTrouble_17 rfl k_X_420 cm_Sh_hasCondition cv_Sh_hasCondition (sh_sf hS (show s < 8 by omega)).1 (by decide) rfl rfl rfl (Nat.le_of_ble_eq_true rfl) (c_Sh_hasConditionN (J := I) (q := 745 + 2 * s) (sh_sf hS (show s < 8 by omega)).1 h3) (d2 := d - 1) (by omega) (Nat.le_of_eq (Nat.zero_add _)) (Nat.le_of_eq (Nat.zero_add _)) ?_
      refine q_top (y := nI 0) (bI_f id) ?_
      refine q_if_eq (tgt := 26) (A := (0 : Int)) (pc2 := 23) d_X_rowTrouble_20 rfl rfl (nI_toInt (by omega)) (fun c2 => ?_) (fun c2 => ?_)
      rotate_left
      · exfalso; omega
      refine r_aload_n (x := some 0) (pc2 := 27) d_X_rowTrouble_26 rfl rfl ?_
      refine q_getR (x := some 729) (pc2 := 30) d_X_rowTrouble_27 rfl k_X_42 rfl (sh_0 hS) (rf_0_7 hR) ?_
      refine r_iload_n (pc2 := 31) d_X_rowTrouble_30 rfl rfl ?_
      refine q_aaload (q := s) (x := some (745 + 2 * s)) (pc2 := 32) d_X_rowTrouble_31 rfl (sh_729 hS) (by decide) (by decide) (nI_toInt (by omega)) (by omega) ((rf_sf hR (show s < 8 by omega)).1) ?_
      refine q_callv (M2 := mi_Sh_hasRow) (pc2 := 35) d_X_rowTrouble_32 rfl k_X_111 cm_Sh_hasRow cv_Sh_hasRow (sh_sf hS (show s < 8 by omega)).1 (by decide) rfl rfl rfl (Nat.le_of_ble_eq_true rfl) (c_Sh_hasRow (J := I) (q := 745 + 2 * s) (sh_sf hS (show s < 8 by omega)).1 h0) (d2 := d - 1) (by omega) (Nat.le_of_eq (Nat.zero_add _)) (Nat.le_of_eq (Nat.zero_add _)) ?_
      refine q_bif_eq (tgt := 42) (pc2 := 38) d_X_rowTrouble_35 rfl rfl (fun c3 => ?_) (fun c3 => ?_)
      · refine r_bipush (v := (-34 : Int32)) (pc2 := 44) d_X_rowTrouble_42 rfl (by decide) ?_
        refine Run.ret (some (.int ((-34 : Int32)))) d_X_rowTrouble_44 ⟨_, rfl⟩ ?_
        first | (exfalso; omega) | exact ⟨by rw [hrt], rfl⟩
      · refine r_iconst (v := nI 0) (pc2 := 39) d_X_rowTrouble_38 rfl (by decide) ?_
        refine r_goto (tgt := 44) d_X_rowTrouble_39 rfl ?_
        refine Run.ret (some (.int (nI 0))) d_X_rowTrouble_44 ⟨_, rfl⟩ ?_
        first | (exfalso; omega) | exact ⟨by rw [hrt], rfl⟩
    · refine r_bipush (v := (-32 : Int32)) (pc2 := 10) d_X_rowTrouble_8 rfl (by decide) ?_
      refine Run.ret (some (.int ((-32 : Int32)))) d_X_rowTrouble_10 ⟨_, rfl⟩ ?_
      first | (exfalso; omega) | exact ⟨by rw [hrt], rfl⟩
  · have hrt : rtN (so s) = nI 0 := by unfold rtN; rw [if_neg (by omega), if_neg (by omega)]; rfl
    have hzi : (sz s).toInt = (zz : Int) := by rw [hz]; exact nI_toInt (by omega)
    refine r_aload_n (x := some 0) (pc2 := 1) d_X_rowTrouble_0 rfl rfl ?_
    refine r_iload_n (pc2 := 2) d_X_rowTrouble_1 rfl rfl ?_
    refine q_callv (M2 := mi_X_isShelf) (pc2 := 5) d_X_rowTrouble_2 rfl k_X_71 cm_X_isShelf cv_X_isShelf (sh_0 hS) (by decide) rfl rfl rfl (Nat.le_of_ble_eq_true rfl) (c_X_isShelf (s := nI s)) (d2 := d - 1) (by omega) (Nat.le_of_eq (Nat.zero_add _)) (Nat.le_of_eq (Nat.zero_add _)) ?_
    refine q_bif_ne (tgt := 11) (pc2 := 8) d_X_rowTrouble_5 rfl rfl (fun c4 => ?_) (fun c4 => ?_)
    · refine r_aload_n (x := some 0) (pc2 := 12) d_X_rowTrouble_11 rfl rfl ?_
      refine q_getR (x := some 729) (pc2 := 15) d_X_rowTrouble_12 rfl k_X_42 rfl (sh_0 hS) (rf_0_7 hR) ?_
      refine r_iload_n (pc2 := 16) d_X_rowTrouble_15 rfl rfl ?_
      refine q_aaload (q := s) (x := some (745 + 2 * s)) (pc2 := 17) d_X_rowTrouble_16 rfl (sh_729 hS) (by decide) (by decide) (nI_toInt (by omega)) (by omega) ((rf_sf hR (show s < 8 by omega)).1) ?_
      refine q_callv (M2 := mi_Sh_hasCondition) (pc2 := 20) d_X_rowTrouble_17 rfl k_X_420 cm_Sh_hasCondition cv_Sh_hasCondition (sh_sf hS (show s < 8 by omega)).1 (by decide) rfl rfl rfl (Nat.le_of_ble_eq_true rfl) (c_Sh_hasConditionN (J := I) (q := 745 + 2 * s) (sh_sf hS (show s < 8 by omega)).1 h3) (d2 := d - 1) (by omega) (Nat.le_of_eq (Nat.zero_add _)) (Nat.le_of_eq (Nat.zero_add _)) ?_
      refine q_top (y := nI 0) (bI_f id) ?_
      refine q_if_eq (tgt := 26) (A := (0 : Int)) (pc2 := 23) d_X_rowTrouble_20 rfl rfl (nI_toInt (by omega)) (fun c5 => ?_) (fun c5 => ?_)
      rotate_left
      · exfalso; omega
      refine r_aload_n (x := some 0) (pc2 := 27) d_X_rowTrouble_26 rfl rfl ?_
      refine q_getR (x := some 729) (pc2 := 30) d_X_rowTrouble_27 rfl k_X_42 rfl (sh_0 hS) (rf_0_7 hR) ?_
      refine r_iload_n (pc2 := 31) d_X_rowTrouble_30 rfl rfl ?_
      refine q_aaload (q := s) (x := some (745 + 2 * s)) (pc2 := 32) d_X_rowTrouble_31 rfl (sh_729 hS) (by decide) (by decide) (nI_toInt (by omega)) (by omega) ((rf_sf hR (show s < 8 by omega)).1) ?_
      refine q_callv (M2 := mi_Sh_hasRow) (pc2 := 35) d_X_rowTrouble_32 rfl k_X_111 cm_Sh_hasRow cv_Sh_hasRow (sh_sf hS (show s < 8 by omega)).1 (by decide) rfl rfl rfl (Nat.le_of_ble_eq_true rfl) (c_Sh_hasRow (J := I) (q := 745 + 2 * s) (sh_sf hS (show s < 8 by omega)).1 h0) (d2 := d - 1) (by omega) (Nat.le_of_eq (Nat.zero_add _)) (Nat.le_of_eq (Nat.zero_add _)) ?_
      refine q_bif_eq (tgt := 42) (pc2 := 38) d_X_rowTrouble_35 rfl rfl (fun c6 => ?_) (fun c6 => ?_)
      · refine r_bipush (v := (-34 : Int32)) (pc2 := 44) d_X_rowTrouble_42 rfl (by decide) ?_
        refine Run.ret (some (.int ((-34 : Int32)))) d_X_rowTrouble_44 ⟨_, rfl⟩ ?_
        first | (exfalso; omega) | exact ⟨by rw [hrt], rfl⟩
      · refine r_iconst (v := nI 0) (pc2 := 39) d_X_rowTrouble_38 rfl (by decide) ?_
        refine r_goto (tgt := 44) d_X_rowTrouble_39 rfl ?_
        refine Run.ret (some (.int (nI 0))) d_X_rowTrouble_44 ⟨_, rfl⟩ ?_
        first | (exfalso; omega) | exact ⟨by rw [hrt], rfl⟩
    · refine r_bipush (v := (-32 : Int32)) (pc2 := 10) d_X_rowTrouble_8 rfl (by decide) ?_
      refine Run.ret (some (.int ((-32 : Int32)))) d_X_rowTrouble_10 ⟨_, rfl⟩ ?_
      first | (exfalso; omega) | exact ⟨by rw [hrt], rfl⟩
  · obtain ⟨ha, hk3, hk8⟩ := SH1.ci hV (show bb + nn < nt by omega) hso
    have hrt : rtN (so s) = -33 := by unfold rtN; rw [if_pos (by omega)]
    have hmm := hco.2.2.1.2
    refine r_aload_n (x := some 0) (pc2 := 1) d_X_rowTrouble_0 rfl rfl ?_
    refine r_iload_n (pc2 := 2) d_X_rowTrouble_1 rfl rfl ?_
    refine q_callv (M2 := mi_X_isShelf) (pc2 := 5) d_X_rowTrouble_2 rfl k_X_71 cm_X_isShelf cv_X_isShelf (sh_0 hS) (by decide) rfl rfl rfl (Nat.le_of_ble_eq_true rfl) (c_X_isShelf (s := nI s)) (d2 := d - 1) (by omega) (Nat.le_of_eq (Nat.zero_add _)) (Nat.le_of_eq (Nat.zero_add _)) ?_
    refine q_bif_ne (tgt := 11) (pc2 := 8) d_X_rowTrouble_5 rfl rfl (fun c7 => ?_) (fun c7 => ?_)
    · refine r_aload_n (x := some 0) (pc2 := 12) d_X_rowTrouble_11 rfl rfl ?_
      refine q_getR (x := some 729) (pc2 := 15) d_X_rowTrouble_12 rfl k_X_42 rfl (sh_0 hS) (rf_0_7 hR) ?_
      refine r_iload_n (pc2 := 16) d_X_rowTrouble_15 rfl rfl ?_
      refine q_aaload (q := s) (x := some (745 + 2 * s)) (pc2 := 17) d_X_rowTrouble_16 rfl (sh_729 hS) (by decide) (by decide) (nI_toInt (by omega)) (by omega) ((rf_sf hR (show s < 8 by omega)).1) ?_
      refine q_callv (M2 := mi_Sh_hasCondition) (pc2 := 20) d_X_rowTrouble_17 rfl k_X_420 cm_Sh_hasCondition cv_Sh_hasCondition (sh_sf hS (show s < 8 by omega)).1 (by decide) rfl rfl rfl (Nat.le_of_ble_eq_true rfl) (c_Sh_hasConditionS (J := I) (q := 745 + 2 * s) (sh_sf hS (show s < 8 by omega)).1 h3) (d2 := d - 1) (by omega) (Nat.le_of_eq (Nat.zero_add _)) (Nat.le_of_eq (Nat.zero_add _)) ?_
      refine q_top (y := nI 1) (bI_t trivial) ?_
      refine q_if_eq (tgt := 26) (A := (1 : Int)) (pc2 := 23) d_X_rowTrouble_20 rfl rfl (nI_toInt (by omega)) (fun c8 => ?_) (fun c8 => ?_)
      · exfalso; omega
      refine r_bipush (v := (-33 : Int32)) (pc2 := 25) d_X_rowTrouble_23 rfl (by decide) ?_
      refine Run.ret (some (.int ((-33 : Int32)))) d_X_rowTrouble_25 ⟨_, rfl⟩ ?_
      first | (exfalso; omega) | exact ⟨by rw [hrt], rfl⟩
    · refine r_bipush (v := (-32 : Int32)) (pc2 := 10) d_X_rowTrouble_8 rfl (by decide) ?_
      refine Run.ret (some (.int ((-32 : Int32)))) d_X_rowTrouble_10 ⟨_, rfl⟩ ?_
      first | (exfalso; omega) | exact ⟨by rw [hrt], rfl⟩
theorem c_X_rowTroubleB {d : Nat} {I : Nat → Nat → Int32} {R : Nat → Nat → Option Nat} {L : Nat → Nat → Int64} {sh : Nat → Nat × Nat} {N : Nat} (hS : ShOK sh) (hR : RfOK R) {tK tF tC tS : Nat → Int32} {nt : Nat} (hV : TV tK tF tC nt) {so sz tz : Nat → Int32} {E : Nat → Int64} (hH : SHR tK tF tC tS I R L sh nt so sz tz E) {s : Int32} (hs : ¬ (0 ≤ s.toInt ∧ s.toInt ≤ 7)) (hd : 3 ≤ d) : Me mi_X_rowTrouble d 0 0 [.ref 0, .int s] (I, R, L, sh, N) (some (.int (-32))) (I, R, L, sh, N) := by
  refine Mt.of pn_X (Nat.le_of_ble_eq_true rfl) ?_
  show Run mi_X_rowTrouble d 0 0 0 [(0, .ref 0), (1, .int s)] [] (I, R, L, sh, N) _
  refine r_aload_n (x := some 0) (pc2 := 1) d_X_rowTrouble_0 rfl rfl ?_
  refine r_iload_n (pc2 := 2) d_X_rowTrouble_1 rfl rfl ?_
  refine q_callv (M2 := mi_X_isShelf) (pc2 := 5) d_X_rowTrouble_2 rfl k_X_71 cm_X_isShelf cv_X_isShelf (sh_0 hS) (by decide) rfl rfl rfl (Nat.le_of_ble_eq_true rfl) (c_X_isShelf (s := s)) (d2 := d - 1) (by omega) (Nat.le_of_eq (Nat.zero_add _)) (Nat.le_of_eq (Nat.zero_add _)) ?_
  refine q_bif_ne (tgt := 11) (pc2 := 8) d_X_rowTrouble_5 rfl rfl (fun c1 => ?_) (fun c1 => ?_)
  · exfalso; omega
  · refine r_bipush (v := (-32 : Int32)) (pc2 := 10) d_X_rowTrouble_8 rfl (by decide) ?_
    refine Run.ret (some (.int ((-32 : Int32)))) d_X_rowTrouble_10 ⟨_, rfl⟩ ?_
    exact ⟨rfl, rfl⟩
theorem c_X_element {d : Nat} {I : Nat → Nat → Int32} {R : Nat → Nat → Option Nat} {L : Nat → Nat → Int64} {sh : Nat → Nat × Nat} {N : Nat} (hS : ShOK sh) (hR : RfOK R) {tK tF tC tS : Nat → Int32} {nt : Nat} (hV : TV tK tF tC nt) {so sz tz : Nat → Int32} {E : Nat → Int64} (hH : SHR tK tF tC tS I R L sh nt so sz tz E) {s i : Int32} (hd : 3 ≤ d) : Me mi_X_element d 0 0 [.ref 0, .int s, .int i] (I, R, L, sh, N) (some (.long (v_element so sz E s i))) (I, R, L, sh, N) := by
  have hm1 : (-1 : Int32).toInt = -1 := by decide
  refine Mt.of pn_X (Nat.le_of_ble_eq_true rfl) ?_
  show Run mi_X_element d 0 0 0 [(0, .ref 0), (1, .int s), (2, .int i)] [] (I, R, L, sh, N) _
  by_cases h7s : 0 ≤ s.toInt ∧ s.toInt ≤ 7
  · obtain ⟨sN, hsN, rfl, esN⟩ : ∃ a : Nat, a < 8 ∧ s = nI a ∧ s.toInt = (a : Int) := ⟨s.toInt.toNat, by omega, eq_nI (by omega), by omega⟩
    rcases hH sN (by omega) with ⟨ha, h0, h3⟩ | ⟨ha, h0, h1, ⟨zz, hz, hz40⟩, h3, hL⟩ | ⟨cc, mm, bb, nn, h3, hco, hnm, hbm, h0, h4, htz, hso⟩
    · have hrt : rtN (so sN) = -34 := by unfold rtN; rw [if_neg (by omega), if_pos (by omega)]
      refine r_aload_n (x := some 0) (pc2 := 1) d_X_element_0 rfl rfl ?_
      refine r_iload_n (pc2 := 2) d_X_element_1 rfl rfl ?_
      refine q_callv (M2 := mi_X_isShelf) (pc2 := 5) d_X_element_2 rfl k_X_71 cm_X_isShelf cv_X_isShelf (sh_0 hS) (by decide) rfl rfl rfl (Nat.le_of_ble_eq_true rfl) (c_X_isShelf (s := nI sN)) (d2 := d - 1) (by omega) (Nat.le_of_eq (Nat.zero_add _)) (Nat.le_of_eq (Nat.zero_add _)) ?_
      refine q_bif_eq (tgt := 37) (pc2 := 8) d_X_element_5 rfl rfl (fun c1 => ?_) (fun c1 => ?_)
      · refine r_lconst (v := (0 : Int64)) (pc2 := 38) d_X_element_37 rfl (by decide) ?_
        refine Run.ret (some (.long ((0 : Int64)))) d_X_element_38 ⟨_, rfl⟩ ?_
        first | (exfalso; omega) | exact ⟨by unfold v_element; (try simp only [esN, Int.toNat_natCast]); (repeat (first | rw [if_pos (by omega)] | rw [if_neg (by omega)])); (try rfl), rfl⟩
      · refine r_aload_n (x := some 0) (pc2 := 9) d_X_element_8 rfl rfl ?_
        refine q_getR (x := some 729) (pc2 := 12) d_X_element_9 rfl k_X_42 rfl (sh_0 hS) (rf_0_7 hR) ?_
        refine r_iload_n (pc2 := 13) d_X_element_12 rfl rfl ?_
        refine q_aaload (q := sN) (x := some (745 + 2 * sN)) (pc2 := 14) d_X_element_13 rfl (sh_729 hS) (by decide) (by decide) (nI_toInt (by omega)) (by omega) ((rf_sf hR (show sN < 8 by omega)).1) ?_
        refine q_callv (M2 := mi_Sh_hasRow) (pc2 := 17) d_X_element_14 rfl k_X_111 cm_Sh_hasRow cv_Sh_hasRow (sh_sf hS (show sN < 8 by omega)).1 (by decide) rfl rfl rfl (Nat.le_of_ble_eq_true rfl) (c_Sh_hasRow (J := I) (q := 745 + 2 * sN) (sh_sf hS (show sN < 8 by omega)).1 h0) (d2 := d - 1) (by omega) (Nat.le_of_eq (Nat.zero_add _)) (Nat.le_of_eq (Nat.zero_add _)) ?_
        refine q_bif_eq (tgt := 37) (pc2 := 20) d_X_element_17 rfl rfl (fun c2 => ?_) (fun c2 => ?_)
        · refine r_lconst (v := (0 : Int64)) (pc2 := 38) d_X_element_37 rfl (by decide) ?_
          refine Run.ret (some (.long ((0 : Int64)))) d_X_element_38 ⟨_, rfl⟩ ?_
          first | (exfalso; omega) | exact ⟨by unfold v_element; (try simp only [esN, Int.toNat_natCast]); (repeat (first | rw [if_pos (by omega)] | rw [if_neg (by omega)])); (try rfl), rfl⟩
        · refine r_iload_n (pc2 := 21) d_X_element_20 rfl rfl ?_
          refine q_if_lt (tgt := 37) (A := i.toInt) (pc2 := 24) d_X_element_21 rfl rfl (rfl) (fun c3 => ?_) (fun c3 => ?_)
          · refine r_lconst (v := (0 : Int64)) (pc2 := 38) d_X_element_37 rfl (by decide) ?_
            refine Run.ret (some (.long ((0 : Int64)))) d_X_element_38 ⟨_, rfl⟩ ?_
            first | (exfalso; omega) | exact ⟨by unfold v_element; (try simp only [esN, Int.toNat_natCast]); (repeat (first | rw [if_pos (by omega)] | rw [if_neg (by omega)])); (try rfl), rfl⟩
          · refine r_iload_n (pc2 := 25) d_X_element_24 rfl rfl ?_
            refine r_aload_n (x := some 0) (pc2 := 26) d_X_element_25 rfl rfl ?_
            refine q_getR (x := some 729) (pc2 := 29) d_X_element_26 rfl k_X_42 rfl (sh_0 hS) (rf_0_7 hR) ?_
            refine r_iload_n (pc2 := 30) d_X_element_29 rfl rfl ?_
            refine q_aaload (q := sN) (x := some (745 + 2 * sN)) (pc2 := 31) d_X_element_30 rfl (sh_729 hS) (by decide) (by decide) (nI_toInt (by omega)) (by omega) ((rf_sf hR (show sN < 8 by omega)).1) ?_
            refine q_getI (x := I (745 + 2 * sN) 1) (pc2 := 34) d_X_element_31 rfl k_X_86 (by decide) (sh_sf hS (show sN < 8 by omega)).1 rfl ?_
            refine q_icmp_lt (tgt := 39) (A := i.toInt) (B := (I (745 + 2 * sN) 1).toInt) (pc2 := 37) d_X_element_34 rfl rfl (rfl) (rfl) (fun c4 => ?_) (fun c4 => ?_)
            · exfalso; omega
            · refine r_lconst (v := (0 : Int64)) (pc2 := 38) d_X_element_37 rfl (by decide) ?_
              refine Run.ret (some (.long ((0 : Int64)))) d_X_element_38 ⟨_, rfl⟩ ?_
              first | (exfalso; omega) | exact ⟨by unfold v_element; (try simp only [esN, Int.toNat_natCast]); (repeat (first | rw [if_pos (by omega)] | rw [if_neg (by omega)])); (try rfl), rfl⟩
    · have hrt : rtN (so sN) = nI 0 := by unfold rtN; rw [if_neg (by omega), if_neg (by omega)]; rfl
      have hzi : (sz sN).toInt = (zz : Int) := by rw [hz]; exact nI_toInt (by omega)
      refine r_aload_n (x := some 0) (pc2 := 1) d_X_element_0 rfl rfl ?_
      refine r_iload_n (pc2 := 2) d_X_element_1 rfl rfl ?_
      refine q_callv (M2 := mi_X_isShelf) (pc2 := 5) d_X_element_2 rfl k_X_71 cm_X_isShelf cv_X_isShelf (sh_0 hS) (by decide) rfl rfl rfl (Nat.le_of_ble_eq_true rfl) (c_X_isShelf (s := nI sN)) (d2 := d - 1) (by omega) (Nat.le_of_eq (Nat.zero_add _)) (Nat.le_of_eq (Nat.zero_add _)) ?_
      refine q_bif_eq (tgt := 37) (pc2 := 8) d_X_element_5 rfl rfl (fun c5 => ?_) (fun c5 => ?_)
      · refine r_lconst (v := (0 : Int64)) (pc2 := 38) d_X_element_37 rfl (by decide) ?_
        refine Run.ret (some (.long ((0 : Int64)))) d_X_element_38 ⟨_, rfl⟩ ?_
        first | (exfalso; omega) | exact ⟨by unfold v_element; (try simp only [esN, hzi, Int.toNat_natCast]); (repeat (first | rw [if_pos (by omega)] | rw [if_neg (by omega)])); (try rfl), rfl⟩
      · refine r_aload_n (x := some 0) (pc2 := 9) d_X_element_8 rfl rfl ?_
        refine q_getR (x := some 729) (pc2 := 12) d_X_element_9 rfl k_X_42 rfl (sh_0 hS) (rf_0_7 hR) ?_
        refine r_iload_n (pc2 := 13) d_X_element_12 rfl rfl ?_
        refine q_aaload (q := sN) (x := some (745 + 2 * sN)) (pc2 := 14) d_X_element_13 rfl (sh_729 hS) (by decide) (by decide) (nI_toInt (by omega)) (by omega) ((rf_sf hR (show sN < 8 by omega)).1) ?_
        refine q_callv (M2 := mi_Sh_hasRow) (pc2 := 17) d_X_element_14 rfl k_X_111 cm_Sh_hasRow cv_Sh_hasRow (sh_sf hS (show sN < 8 by omega)).1 (by decide) rfl rfl rfl (Nat.le_of_ble_eq_true rfl) (c_Sh_hasRow (J := I) (q := 745 + 2 * sN) (sh_sf hS (show sN < 8 by omega)).1 h0) (d2 := d - 1) (by omega) (Nat.le_of_eq (Nat.zero_add _)) (Nat.le_of_eq (Nat.zero_add _)) ?_
        refine q_bif_eq (tgt := 37) (pc2 := 20) d_X_element_17 rfl rfl (fun c6 => ?_) (fun c6 => ?_)
        · refine r_lconst (v := (0 : Int64)) (pc2 := 38) d_X_element_37 rfl (by decide) ?_
          refine Run.ret (some (.long ((0 : Int64)))) d_X_element_38 ⟨_, rfl⟩ ?_
          first | (exfalso; omega) | exact ⟨by unfold v_element; (try simp only [esN, hzi, Int.toNat_natCast]); (repeat (first | rw [if_pos (by omega)] | rw [if_neg (by omega)])); (try rfl), rfl⟩
        · refine r_iload_n (pc2 := 21) d_X_element_20 rfl rfl ?_
          refine q_if_lt (tgt := 37) (A := i.toInt) (pc2 := 24) d_X_element_21 rfl rfl (rfl) (fun c7 => ?_) (fun c7 => ?_)
          · refine r_lconst (v := (0 : Int64)) (pc2 := 38) d_X_element_37 rfl (by decide) ?_
            refine Run.ret (some (.long ((0 : Int64)))) d_X_element_38 ⟨_, rfl⟩ ?_
            first | (exfalso; omega) | exact ⟨by unfold v_element; (try simp only [esN, hzi, Int.toNat_natCast]); (repeat (first | rw [if_pos (by omega)] | rw [if_neg (by omega)])); (try rfl), rfl⟩
          · refine r_iload_n (pc2 := 25) d_X_element_24 rfl rfl ?_
            refine r_aload_n (x := some 0) (pc2 := 26) d_X_element_25 rfl rfl ?_
            refine q_getR (x := some 729) (pc2 := 29) d_X_element_26 rfl k_X_42 rfl (sh_0 hS) (rf_0_7 hR) ?_
            refine r_iload_n (pc2 := 30) d_X_element_29 rfl rfl ?_
            refine q_aaload (q := sN) (x := some (745 + 2 * sN)) (pc2 := 31) d_X_element_30 rfl (sh_729 hS) (by decide) (by decide) (nI_toInt (by omega)) (by omega) ((rf_sf hR (show sN < 8 by omega)).1) ?_
            refine q_getI (x := nI zz) (pc2 := 34) d_X_element_31 rfl k_X_86 (by decide) (sh_sf hS (show sN < 8 by omega)).1 (h1.trans hz) ?_
            refine q_icmp_lt (tgt := 39) (A := i.toInt) (B := ((zz : Nat) : Int)) (pc2 := 37) d_X_element_34 rfl rfl (rfl) (nI_toInt (by omega)) (fun c8 => ?_) (fun c8 => ?_)
            · obtain ⟨iN, hiN, rfl, eiN⟩ : ∃ a : Nat, a < 40 ∧ i = nI a ∧ i.toInt = (a : Int) := ⟨i.toInt.toNat, by omega, eq_nI (by omega), by omega⟩
              refine r_aload_n (x := some 0) (pc2 := 40) d_X_element_39 rfl rfl ?_
              refine q_getR (x := some 729) (pc2 := 43) d_X_element_40 rfl k_X_42 rfl (sh_0 hS) (rf_0_7 hR) ?_
              refine r_iload_n (pc2 := 44) d_X_element_43 rfl rfl ?_
              refine q_aaload (q := sN) (x := some (745 + 2 * sN)) (pc2 := 45) d_X_element_44 rfl (sh_729 hS) (by decide) (by decide) (nI_toInt (by omega)) (by omega) ((rf_sf hR (show sN < 8 by omega)).1) ?_
              refine q_getR (x := some (746 + 2 * sN)) (pc2 := 48) d_X_element_45 rfl k_X_101 rfl (sh_sf hS (show sN < 8 by omega)).1 ((rf_sf hR (show sN < 8 by omega)).2) ?_
              refine r_iload_n (pc2 := 49) d_X_element_48 rfl rfl ?_
              refine q_laload (q := iN) (x := E (40 * sN + iN)) (pc2 := 50) d_X_element_49 rfl (sh_sf hS (show sN < 8 by omega)).2 (nI_toInt (by omega)) (by omega) (hL iN hiN) ?_
              refine Run.ret (some (.long (E (40 * sN + iN)))) d_X_element_50 ⟨_, rfl⟩ ?_
              first | (exfalso; omega) | exact ⟨by unfold v_element; (try simp only [esN, hzi, eiN, Int.toNat_natCast]); (repeat (first | rw [if_pos (by omega)] | rw [if_neg (by omega)])); (try rfl), rfl⟩
            · refine r_lconst (v := (0 : Int64)) (pc2 := 38) d_X_element_37 rfl (by decide) ?_
              refine Run.ret (some (.long ((0 : Int64)))) d_X_element_38 ⟨_, rfl⟩ ?_
              first | (exfalso; omega) | exact ⟨by unfold v_element; (try simp only [esN, hzi, Int.toNat_natCast]); (repeat (first | rw [if_pos (by omega)] | rw [if_neg (by omega)])); (try rfl), rfl⟩
    · obtain ⟨ha, hk3, hk8⟩ := SH1.ci hV (show bb + nn < nt by omega) hso
      have hrt : rtN (so sN) = -33 := by unfold rtN; rw [if_pos (by omega)]
      have hmm := hco.2.2.1.2
      refine r_aload_n (x := some 0) (pc2 := 1) d_X_element_0 rfl rfl ?_
      refine r_iload_n (pc2 := 2) d_X_element_1 rfl rfl ?_
      refine q_callv (M2 := mi_X_isShelf) (pc2 := 5) d_X_element_2 rfl k_X_71 cm_X_isShelf cv_X_isShelf (sh_0 hS) (by decide) rfl rfl rfl (Nat.le_of_ble_eq_true rfl) (c_X_isShelf (s := nI sN)) (d2 := d - 1) (by omega) (Nat.le_of_eq (Nat.zero_add _)) (Nat.le_of_eq (Nat.zero_add _)) ?_
      refine q_bif_eq (tgt := 37) (pc2 := 8) d_X_element_5 rfl rfl (fun c9 => ?_) (fun c9 => ?_)
      · refine r_lconst (v := (0 : Int64)) (pc2 := 38) d_X_element_37 rfl (by decide) ?_
        refine Run.ret (some (.long ((0 : Int64)))) d_X_element_38 ⟨_, rfl⟩ ?_
        first | (exfalso; omega) | exact ⟨by unfold v_element; (try simp only [esN, Int.toNat_natCast]); (repeat (first | rw [if_pos (by omega)] | rw [if_neg (by omega)])); (try rfl), rfl⟩
      · refine r_aload_n (x := some 0) (pc2 := 9) d_X_element_8 rfl rfl ?_
        refine q_getR (x := some 729) (pc2 := 12) d_X_element_9 rfl k_X_42 rfl (sh_0 hS) (rf_0_7 hR) ?_
        refine r_iload_n (pc2 := 13) d_X_element_12 rfl rfl ?_
        refine q_aaload (q := sN) (x := some (745 + 2 * sN)) (pc2 := 14) d_X_element_13 rfl (sh_729 hS) (by decide) (by decide) (nI_toInt (by omega)) (by omega) ((rf_sf hR (show sN < 8 by omega)).1) ?_
        refine q_callv (M2 := mi_Sh_hasRow) (pc2 := 17) d_X_element_14 rfl k_X_111 cm_Sh_hasRow cv_Sh_hasRow (sh_sf hS (show sN < 8 by omega)).1 (by decide) rfl rfl rfl (Nat.le_of_ble_eq_true rfl) (c_Sh_hasRow (J := I) (q := 745 + 2 * sN) (sh_sf hS (show sN < 8 by omega)).1 h0) (d2 := d - 1) (by omega) (Nat.le_of_eq (Nat.zero_add _)) (Nat.le_of_eq (Nat.zero_add _)) ?_
        refine q_bif_eq (tgt := 37) (pc2 := 20) d_X_element_17 rfl rfl (fun c10 => ?_) (fun c10 => ?_)
        · refine r_lconst (v := (0 : Int64)) (pc2 := 38) d_X_element_37 rfl (by decide) ?_
          refine Run.ret (some (.long ((0 : Int64)))) d_X_element_38 ⟨_, rfl⟩ ?_
          first | (exfalso; omega) | exact ⟨by unfold v_element; (try simp only [esN, Int.toNat_natCast]); (repeat (first | rw [if_pos (by omega)] | rw [if_neg (by omega)])); (try rfl), rfl⟩
        · refine r_iload_n (pc2 := 21) d_X_element_20 rfl rfl ?_
          refine q_if_lt (tgt := 37) (A := i.toInt) (pc2 := 24) d_X_element_21 rfl rfl (rfl) (fun c11 => ?_) (fun c11 => ?_)
          · refine r_lconst (v := (0 : Int64)) (pc2 := 38) d_X_element_37 rfl (by decide) ?_
            refine Run.ret (some (.long ((0 : Int64)))) d_X_element_38 ⟨_, rfl⟩ ?_
            first | (exfalso; omega) | exact ⟨by unfold v_element; (try simp only [esN, Int.toNat_natCast]); (repeat (first | rw [if_pos (by omega)] | rw [if_neg (by omega)])); (try rfl), rfl⟩
          · refine r_iload_n (pc2 := 25) d_X_element_24 rfl rfl ?_
            refine r_aload_n (x := some 0) (pc2 := 26) d_X_element_25 rfl rfl ?_
            refine q_getR (x := some 729) (pc2 := 29) d_X_element_26 rfl k_X_42 rfl (sh_0 hS) (rf_0_7 hR) ?_
            refine r_iload_n (pc2 := 30) d_X_element_29 rfl rfl ?_
            refine q_aaload (q := sN) (x := some (745 + 2 * sN)) (pc2 := 31) d_X_element_30 rfl (sh_729 hS) (by decide) (by decide) (nI_toInt (by omega)) (by omega) ((rf_sf hR (show sN < 8 by omega)).1) ?_
            refine q_getI (x := I (745 + 2 * sN) 1) (pc2 := 34) d_X_element_31 rfl k_X_86 (by decide) (sh_sf hS (show sN < 8 by omega)).1 rfl ?_
            refine q_icmp_lt (tgt := 39) (A := i.toInt) (B := (I (745 + 2 * sN) 1).toInt) (pc2 := 37) d_X_element_34 rfl rfl (rfl) (rfl) (fun c12 => ?_) (fun c12 => ?_)
            · exfalso; omega
            · refine r_lconst (v := (0 : Int64)) (pc2 := 38) d_X_element_37 rfl (by decide) ?_
              refine Run.ret (some (.long ((0 : Int64)))) d_X_element_38 ⟨_, rfl⟩ ?_
              first | (exfalso; omega) | exact ⟨by unfold v_element; (try simp only [esN, Int.toNat_natCast]); (repeat (first | rw [if_pos (by omega)] | rw [if_neg (by omega)])); (try rfl), rfl⟩
  · skip
    refine r_aload_n (x := some 0) (pc2 := 1) d_X_element_0 rfl rfl ?_
    refine r_iload_n (pc2 := 2) d_X_element_1 rfl rfl ?_
    refine q_callv (M2 := mi_X_isShelf) (pc2 := 5) d_X_element_2 rfl k_X_71 cm_X_isShelf cv_X_isShelf (sh_0 hS) (by decide) rfl rfl rfl (Nat.le_of_ble_eq_true rfl) (c_X_isShelf (s := s)) (d2 := d - 1) (by omega) (Nat.le_of_eq (Nat.zero_add _)) (Nat.le_of_eq (Nat.zero_add _)) ?_
    refine q_bif_eq (tgt := 37) (pc2 := 8) d_X_element_5 rfl rfl (fun c13 => ?_) (fun c13 => ?_)
    · refine r_lconst (v := (0 : Int64)) (pc2 := 38) d_X_element_37 rfl (by decide) ?_
      refine Run.ret (some (.long ((0 : Int64)))) d_X_element_38 ⟨_, rfl⟩ ?_
      first | (exfalso; omega) | exact ⟨by unfold v_element; (try simp only [Int.toNat_natCast]); (repeat (first | rw [if_pos (by omega)] | rw [if_neg (by omega)])); (try rfl), rfl⟩
    · obtain ⟨sN, hsN, gsN, rfl, esN⟩ := nat_of' (Int.le_refl 0) c13
      exfalso; omega
theorem c_Sh_holdingN {d : Nat} {J : Nat → Nat → Int32} {R : Nat → Nat → Option Nat} {L : Nat → Nat → Int64} {sh : Nat → Nat × Nat} {N : Nat} {q : Nat} (hq : sh q = (7, 0)) {x : Int32} (hx : R q 3 = none) (h0 : J q 0 = x) (hd : 3 ≤ d) : Me mi_Sh_holding d 0 0 [.ref q] (J, R, L, sh, N) (some (.int (x))) (J, R, L, sh, N) := by
  refine Mt.of pn_Sh (Nat.le_of_ble_eq_true rfl) ?_
  show Run mi_Sh_holding d 0 0 0 [(0, .ref q)] [] (J, R, L, sh, N) _
  refine r_aload_n (x := some q) (pc2 := 1) d_Sh_holding_0 rfl rfl ?_
  refine q_getR (x := none) (pc2 := 4) d_Sh_holding_1 rfl k_Sh_22 rfl hq hx ?_
  refine r_ifnonnull (x := none) (tgt := 14) (pc2 := 7) d_Sh_holding_4 rfl rfl (fun a1 ha1 => ?_) (fun ha1 => ?_)
  · contradiction
  · refine r_aload_n (x := some q) (pc2 := 8) d_Sh_holding_7 rfl rfl ?_
    refine q_getI (x := x) (pc2 := 11) d_Sh_holding_8 rfl k_Sh_9 (by decide) hq h0 ?_
    refine r_goto (tgt := 28) d_Sh_holding_11 rfl ?_
    refine Run.ret (some (.int x)) d_Sh_holding_28 ⟨_, rfl⟩ ?_
    exact ⟨rfl, rfl⟩
theorem c_Sh_holdingC {d : Nat} {J : Nat → Nat → Int32} {R : Nat → Nat → Option Nat} {L : Nat → Nat → Int64} {sh : Nat → Nat × Nat} {N : Nat} {q : Nat} (hq : sh q = (7, 0)) {tK tF tC tS : Nat → Int32} {c m b n : Nat} (hx : R q 3 = some c) (hco : CO tK tF tC tS J R sh c m b) (hn : n < m) (h4 : J q 4 = nI n) (hd : 3 ≤ d) : Me mi_Sh_holding d 0 0 [.ref q] (J, R, L, sh, N) (some (.int (nI 10 + tK (b + n)))) (J, R, L, sh, N) := by
  refine Mt.of pn_Sh (Nat.le_of_ble_eq_true rfl) ?_
  show Run mi_Sh_holding d 0 0 0 [(0, .ref q)] [] (J, R, L, sh, N) _
  refine r_aload_n (x := some q) (pc2 := 1) d_Sh_holding_0 rfl rfl ?_
  refine q_getR (x := some c) (pc2 := 4) d_Sh_holding_1 rfl k_Sh_22 rfl hq hx ?_
  refine r_ifnonnull (x := some c) (tgt := 14) (pc2 := 7) d_Sh_holding_4 rfl rfl (fun _ c1 => ?_) (fun c1 => ?_)
  rotate_left
  · cases c1
  refine r_bipush (v := nI 10) (pc2 := 16) d_Sh_holding_14 rfl (by decide) ?_
  refine r_aload_n (x := some q) (pc2 := 17) d_Sh_holding_16 rfl rfl ?_
  refine q_getR (x := some c) (pc2 := 20) d_Sh_holding_17 rfl k_Sh_22 rfl hq hx ?_
  refine r_aload_n (x := some q) (pc2 := 21) d_Sh_holding_20 rfl rfl ?_
  refine q_getI (x := nI n) (pc2 := 24) d_Sh_holding_21 rfl k_Sh_26 (by decide) hq h4 ?_
  refine q_callv (M2 := mi_Co_kindOf) (pc2 := 27) d_Sh_holding_24 rfl k_Sh_29 cm_Co_kindOf cv_Co_kindOf hco.1.1 (by decide) rfl rfl rfl (Nat.le_of_ble_eq_true rfl) (c_Co_kindOf (I := J) hco (n := n) hn) (d2 := d - 1) (by omega) (Nat.le_of_eq (Nat.zero_add _)) (Nat.le_of_eq (Nat.zero_add _)) ?_
  refine r_iadd (pc2 := 28) d_Sh_holding_27 rfl ?_
  refine Run.ret (some (.int ((nI 10) + (tK (b + n))))) d_Sh_holding_28 ⟨_, rfl⟩ ?_
  exact ⟨rfl, rfl⟩
theorem c_X_holds {d : Nat} {I : Nat → Nat → Int32} {R : Nat → Nat → Option Nat} {L : Nat → Nat → Int64} {sh : Nat → Nat × Nat} {N : Nat} (hS : ShOK sh) (hR : RfOK R) {tK tF tC tS : Nat → Int32} {nt : Nat} (hV : TV tK tF tC nt) {so sz tz : Nat → Int32} {E : Nat → Int64} (hH : SHR tK tF tC tS I R L sh nt so sz tz E) {s : Int32} (hd : 6 ≤ d) : Mt mi_X_holds d 0 0 [.ref 0, .int s] (I, R, L, sh, N) (XP I R L sh N (o_holds so s) (fun K _ => FrX sh I K)) := by
  have hm1 : (-1 : Int32).toInt = -1 := by decide
  refine Mt.of pn_X (Nat.le_of_ble_eq_true rfl) ?_
  show Run mi_X_holds d 0 0 0 [(0, .ref 0), (1, .int s)] [] (I, R, L, sh, N) _
  by_cases h7s : 0 ≤ s.toInt ∧ s.toInt ≤ 7
  · obtain ⟨sN, hsN, rfl, esN⟩ : ∃ a : Nat, a < 8 ∧ s = nI a ∧ s.toInt = (a : Int) := ⟨s.toInt.toNat, by omega, eq_nI (by omega), by omega⟩
    rcases hH sN (by omega) with ⟨ha, h0, h3⟩ | ⟨ha, h0, h1, ⟨zz, hz, hz40⟩, h3, hL⟩ | ⟨cc, mm, bb, nn, h3, hco, hnm, hbm, h0, h4, htz, hso⟩
    · have hrt : rtN (so sN) = -34 := by unfold rtN; rw [if_neg (by omega), if_pos (by omega)]
      refine r_aload_n (x := some 0) (pc2 := 1) d_X_holds_0 rfl rfl ?_
      refine r_iload_n (pc2 := 2) d_X_holds_1 rfl rfl ?_
      refine q_callv (M2 := mi_X_isShelf) (pc2 := 5) d_X_holds_2 rfl k_X_71 cm_X_isShelf cv_X_isShelf (sh_0 hS) (by decide) rfl rfl rfl (Nat.le_of_ble_eq_true rfl) (c_X_isShelf (s := nI sN)) (d2 := d - 1) (by omega) (Nat.le_of_eq (Nat.zero_add _)) (Nat.le_of_eq (Nat.zero_add _)) ?_
      refine q_bif_eq (tgt := 20) (pc2 := 8) d_X_holds_5 rfl rfl (fun c1 => ?_) (fun c1 => ?_)
      · refine r_iconst (v := (-1 : Int32)) (pc2 := 21) d_X_holds_20 rfl (by decide) ?_
        refine Run.ret (some (.int ((-1 : Int32)))) d_X_holds_21 ⟨_, rfl⟩ ?_
        first | (exfalso; omega) | exact XP.val (by unfold o_holds; simp only [esN, Int.toNat_natCast]; rw [if_pos (by omega), Int32.toInt_inj.mp (ha.trans hm1.symm)]) FrXR.rf FrX.rf
      · refine r_aload_n (x := some 0) (pc2 := 9) d_X_holds_8 rfl rfl ?_
        refine q_getR (x := some 729) (pc2 := 12) d_X_holds_9 rfl k_X_42 rfl (sh_0 hS) (rf_0_7 hR) ?_
        refine r_iload_n (pc2 := 13) d_X_holds_12 rfl rfl ?_
        refine q_aaload (q := sN) (x := some (745 + 2 * sN)) (pc2 := 14) d_X_holds_13 rfl (sh_729 hS) (by decide) (by decide) (nI_toInt (by omega)) (by omega) ((rf_sf hR (show sN < 8 by omega)).1) ?_
        refine q_callv (M2 := mi_Sh_holding) (pc2 := 17) d_X_holds_14 rfl k_X_115 cm_Sh_holding cv_Sh_holding (sh_sf hS (show sN < 8 by omega)).1 (by decide) rfl rfl rfl (Nat.le_of_ble_eq_true rfl) (c_Sh_holdingN (J := I) (q := 745 + 2 * sN) (sh_sf hS (show sN < 8 by omega)).1 h3 h0 (by omega)) (d2 := d - 1) (by omega) (Nat.le_of_eq (Nat.zero_add _)) (Nat.le_of_eq (Nat.zero_add _)) ?_
        refine r_goto (tgt := 21) d_X_holds_17 rfl ?_
        refine Run.ret (some (.int ((-1 : Int32)))) d_X_holds_21 ⟨_, rfl⟩ ?_
        first | (exfalso; omega) | exact XP.val (by unfold o_holds; simp only [esN, Int.toNat_natCast]; rw [if_pos (by omega), Int32.toInt_inj.mp (ha.trans hm1.symm)]) FrXR.rf FrX.rf
    · have hrt : rtN (so sN) = nI 0 := by unfold rtN; rw [if_neg (by omega), if_neg (by omega)]; rfl
      have hzi : (sz sN).toInt = (zz : Int) := by rw [hz]; exact nI_toInt (by omega)
      refine r_aload_n (x := some 0) (pc2 := 1) d_X_holds_0 rfl rfl ?_
      refine r_iload_n (pc2 := 2) d_X_holds_1 rfl rfl ?_
      refine q_callv (M2 := mi_X_isShelf) (pc2 := 5) d_X_holds_2 rfl k_X_71 cm_X_isShelf cv_X_isShelf (sh_0 hS) (by decide) rfl rfl rfl (Nat.le_of_ble_eq_true rfl) (c_X_isShelf (s := nI sN)) (d2 := d - 1) (by omega) (Nat.le_of_eq (Nat.zero_add _)) (Nat.le_of_eq (Nat.zero_add _)) ?_
      refine q_bif_eq (tgt := 20) (pc2 := 8) d_X_holds_5 rfl rfl (fun c2 => ?_) (fun c2 => ?_)
      · refine r_iconst (v := (-1 : Int32)) (pc2 := 21) d_X_holds_20 rfl (by decide) ?_
        refine Run.ret (some (.int ((-1 : Int32)))) d_X_holds_21 ⟨_, rfl⟩ ?_
        first | (exfalso; omega) | exact XP.val (by unfold o_holds; simp only [esN, hzi, Int.toNat_natCast]; rw [if_pos (by omega)]) FrXR.rf FrX.rf
      · refine r_aload_n (x := some 0) (pc2 := 9) d_X_holds_8 rfl rfl ?_
        refine q_getR (x := some 729) (pc2 := 12) d_X_holds_9 rfl k_X_42 rfl (sh_0 hS) (rf_0_7 hR) ?_
        refine r_iload_n (pc2 := 13) d_X_holds_12 rfl rfl ?_
        refine q_aaload (q := sN) (x := some (745 + 2 * sN)) (pc2 := 14) d_X_holds_13 rfl (sh_729 hS) (by decide) (by decide) (nI_toInt (by omega)) (by omega) ((rf_sf hR (show sN < 8 by omega)).1) ?_
        refine q_callv (M2 := mi_Sh_holding) (pc2 := 17) d_X_holds_14 rfl k_X_115 cm_Sh_holding cv_Sh_holding (sh_sf hS (show sN < 8 by omega)).1 (by decide) rfl rfl rfl (Nat.le_of_ble_eq_true rfl) (c_Sh_holdingN (J := I) (q := 745 + 2 * sN) (sh_sf hS (show sN < 8 by omega)).1 h3 h0 (by omega)) (d2 := d - 1) (by omega) (Nat.le_of_eq (Nat.zero_add _)) (Nat.le_of_eq (Nat.zero_add _)) ?_
        refine r_goto (tgt := 21) d_X_holds_17 rfl ?_
        refine Run.ret (some (.int (so sN))) d_X_holds_21 ⟨_, rfl⟩ ?_
        first | (exfalso; omega) | exact XP.val (by unfold o_holds; simp only [esN, hzi, Int.toNat_natCast]; rw [if_pos (by omega)]) FrXR.rf FrX.rf
    · obtain ⟨ha, hk3, hk8⟩ := SH1.ci hV (show bb + nn < nt by omega) hso
      have hrt : rtN (so sN) = -33 := by unfold rtN; rw [if_pos (by omega)]
      have hmm := hco.2.2.1.2
      refine r_aload_n (x := some 0) (pc2 := 1) d_X_holds_0 rfl rfl ?_
      refine r_iload_n (pc2 := 2) d_X_holds_1 rfl rfl ?_
      refine q_callv (M2 := mi_X_isShelf) (pc2 := 5) d_X_holds_2 rfl k_X_71 cm_X_isShelf cv_X_isShelf (sh_0 hS) (by decide) rfl rfl rfl (Nat.le_of_ble_eq_true rfl) (c_X_isShelf (s := nI sN)) (d2 := d - 1) (by omega) (Nat.le_of_eq (Nat.zero_add _)) (Nat.le_of_eq (Nat.zero_add _)) ?_
      refine q_bif_eq (tgt := 20) (pc2 := 8) d_X_holds_5 rfl rfl (fun c3 => ?_) (fun c3 => ?_)
      · refine r_iconst (v := (-1 : Int32)) (pc2 := 21) d_X_holds_20 rfl (by decide) ?_
        refine Run.ret (some (.int ((-1 : Int32)))) d_X_holds_21 ⟨_, rfl⟩ ?_
        first | (exfalso; omega) | exact XP.val (by unfold o_holds; simp only [esN, Int.toNat_natCast]; rw [if_pos (by omega), hso]) FrXR.rf FrX.rf
      · refine r_aload_n (x := some 0) (pc2 := 9) d_X_holds_8 rfl rfl ?_
        refine q_getR (x := some 729) (pc2 := 12) d_X_holds_9 rfl k_X_42 rfl (sh_0 hS) (rf_0_7 hR) ?_
        refine r_iload_n (pc2 := 13) d_X_holds_12 rfl rfl ?_
        refine q_aaload (q := sN) (x := some (745 + 2 * sN)) (pc2 := 14) d_X_holds_13 rfl (sh_729 hS) (by decide) (by decide) (nI_toInt (by omega)) (by omega) ((rf_sf hR (show sN < 8 by omega)).1) ?_
        refine q_callv (M2 := mi_Sh_holding) (pc2 := 17) d_X_holds_14 rfl k_X_115 cm_Sh_holding cv_Sh_holding (sh_sf hS (show sN < 8 by omega)).1 (by decide) rfl rfl rfl (Nat.le_of_ble_eq_true rfl) (c_Sh_holdingC (J := I) (q := 745 + 2 * sN) (sh_sf hS (show sN < 8 by omega)).1 h3 hco hnm h4 (by omega)) (d2 := d - 1) (by omega) (Nat.le_of_eq (Nat.zero_add _)) (Nat.le_of_eq (Nat.zero_add _)) ?_
        refine r_goto (tgt := 21) d_X_holds_17 rfl ?_
        refine Run.ret (some (.int (nI 10 + tK (bb + nn)))) d_X_holds_21 ⟨_, rfl⟩ ?_
        first | (exfalso; omega) | exact XP.val (by unfold o_holds; simp only [esN, Int.toNat_natCast]; rw [if_pos (by omega), hso]) FrXR.rf FrX.rf
  · skip
    refine r_aload_n (x := some 0) (pc2 := 1) d_X_holds_0 rfl rfl ?_
    refine r_iload_n (pc2 := 2) d_X_holds_1 rfl rfl ?_
    refine q_callv (M2 := mi_X_isShelf) (pc2 := 5) d_X_holds_2 rfl k_X_71 cm_X_isShelf cv_X_isShelf (sh_0 hS) (by decide) rfl rfl rfl (Nat.le_of_ble_eq_true rfl) (c_X_isShelf (s := s)) (d2 := d - 1) (by omega) (Nat.le_of_eq (Nat.zero_add _)) (Nat.le_of_eq (Nat.zero_add _)) ?_
    refine q_bif_eq (tgt := 20) (pc2 := 8) d_X_holds_5 rfl rfl (fun c4 => ?_) (fun c4 => ?_)
    · refine r_iconst (v := (-1 : Int32)) (pc2 := 21) d_X_holds_20 rfl (by decide) ?_
      refine Run.ret (some (.int ((-1 : Int32)))) d_X_holds_21 ⟨_, rfl⟩ ?_
      first | (exfalso; omega) | exact XP.val (by unfold o_holds; rw [if_neg (by omega)]) FrXR.rf FrX.rf
    · obtain ⟨sN, hsN, gsN, rfl, esN⟩ := nat_of' (Int.le_refl 0) c4
      exfalso; omega
theorem c_X_row {d : Nat} {I : Nat → Nat → Int32} {R : Nat → Nat → Option Nat} {L : Nat → Nat → Int64} {sh : Nat → Nat × Nat} {N : Nat} (hS : ShOK sh) (hR : RfOK R) {tK tF tC tS : Nat → Int32} {nt : Nat} (hV : TV tK tF tC nt) {s k n : Int32} (hd : 6 ≤ d) : Mt mi_X_row d 0 0 [.ref 0, .int s, .int k, .int n] (I, R, L, sh, N) (XH I R L sh N (o_row s k n) (fun K R' L' => FH s.toInt.toNat I K R R' L L' ∧ ∀ (z : Int32) (E : Nat → Int64), (∀ j, j < 40 → E (40 * s.toInt.toNat + j) = 0) → SH1 tK tF tC tS K R' L' sh nt s.toInt.toNat k n z E)) := by
  refine Mt.of pn_X (Nat.le_of_ble_eq_true rfl) ?_
  show Run mi_X_row d 0 0 0 [(0, .ref 0), (1, .int s), (2, .int k), (3, .int n)] [] (I, R, L, sh, N) _
  refine r_aload_n (x := some 0) (pc2 := 1) d_X_row_0 rfl rfl ?_
  refine r_iload_n (pc2 := 2) d_X_row_1 rfl rfl ?_
  refine q_callv (M2 := mi_X_isShelf) (pc2 := 5) d_X_row_2 rfl k_X_71 cm_X_isShelf cv_X_isShelf (sh_0 hS) (by decide) rfl rfl rfl (Nat.le_of_ble_eq_true rfl) (c_X_isShelf (s := s)) (d2 := d - 1) (by omega) (Nat.le_of_eq (Nat.zero_add _)) (Nat.le_of_eq (Nat.zero_add _)) ?_
  refine q_bif_eq (tgt := 27) (pc2 := 8) d_X_row_5 rfl rfl (fun c1 => ?_) (fun c1 => ?_)
  · refine r_aload_n (x := some 0) (pc2 := 28) d_X_row_27 rfl rfl ?_
    refine r_bipush (v := (-32 : Int32)) (pc2 := 30) d_X_row_28 rfl (by decide) ?_
    refine q_callv (M2 := mi_X_refuse) (pc2 := 33) d_X_row_30 rfl k_X_75 cm_X_refuse cv_X_refuse (sh_0 hS) (by decide) rfl rfl rfl (Nat.le_of_ble_eq_true rfl) (c_X_refuse_0 (J := I) hS hR) (d2 := d - 1) (by omega) (Nat.le_of_eq (Nat.zero_add _)) (Nat.le_of_eq (Nat.zero_add _)) ?_
    obtain ⟨I2, hI2⟩ : ∃ x, x = u2 I 744 0 (I 744 0 + nI 1) := ⟨_, rfl⟩
    rw [← hI2]
    refine Run.ret (some (.int ((-32 : Int32)))) d_X_row_33 ⟨_, rfl⟩ ?_
    first | (exfalso; omega) | exact XH.bad hS 0 (by unfold o_row; rw [if_neg (by omega)]) (by decide) FrX.rf hI2
  · refine r_iload_n (pc2 := 9) d_X_row_8 rfl rfl ?_
    refine q_if_lt (tgt := 27) (A := k.toInt) (pc2 := 12) d_X_row_9 rfl rfl (rfl) (fun c3 => ?_) (fun c3 => ?_)
    · refine r_aload_n (x := some 0) (pc2 := 28) d_X_row_27 rfl rfl ?_
      refine r_bipush (v := (-32 : Int32)) (pc2 := 30) d_X_row_28 rfl (by decide) ?_
      refine q_callv (M2 := mi_X_refuse) (pc2 := 33) d_X_row_30 rfl k_X_75 cm_X_refuse cv_X_refuse (sh_0 hS) (by decide) rfl rfl rfl (Nat.le_of_ble_eq_true rfl) (c_X_refuse_0 (J := I) hS hR) (d2 := d - 1) (by omega) (Nat.le_of_eq (Nat.zero_add _)) (Nat.le_of_eq (Nat.zero_add _)) ?_
      obtain ⟨I4, hI4⟩ : ∃ x, x = u2 I 744 0 (I 744 0 + nI 1) := ⟨_, rfl⟩
      rw [← hI4]
      refine Run.ret (some (.int ((-32 : Int32)))) d_X_row_33 ⟨_, rfl⟩ ?_
      first | (exfalso; omega) | exact XH.bad hS 0 (by unfold o_row; rw [if_neg (by omega)]) (by decide) FrX.rf hI4
    · refine r_iload_n (pc2 := 13) d_X_row_12 rfl rfl ?_
      refine r_iconst (v := nI 5) (pc2 := 14) d_X_row_13 rfl (by decide) ?_
      refine q_icmp_ge (tgt := 27) (A := k.toInt) (B := (5 : Int)) (pc2 := 17) d_X_row_14 rfl rfl (rfl) (nI_toInt (by omega)) (fun c5 => ?_) (fun c5 => ?_)
      · refine r_aload_n (x := some 0) (pc2 := 28) d_X_row_27 rfl rfl ?_
        refine r_bipush (v := (-32 : Int32)) (pc2 := 30) d_X_row_28 rfl (by decide) ?_
        refine q_callv (M2 := mi_X_refuse) (pc2 := 33) d_X_row_30 rfl k_X_75 cm_X_refuse cv_X_refuse (sh_0 hS) (by decide) rfl rfl rfl (Nat.le_of_ble_eq_true rfl) (c_X_refuse_0 (J := I) hS hR) (d2 := d - 1) (by omega) (Nat.le_of_eq (Nat.zero_add _)) (Nat.le_of_eq (Nat.zero_add _)) ?_
        obtain ⟨I6, hI6⟩ : ∃ x, x = u2 I 744 0 (I 744 0 + nI 1) := ⟨_, rfl⟩
        rw [← hI6]
        refine Run.ret (some (.int ((-32 : Int32)))) d_X_row_33 ⟨_, rfl⟩ ?_
        first | (exfalso; omega) | exact XH.bad hS 0 (by unfold o_row; rw [if_neg (by omega)]) (by decide) FrX.rf hI6
      · refine r_iload_n (pc2 := 18) d_X_row_17 rfl rfl ?_
        refine q_if_lt (tgt := 27) (A := n.toInt) (pc2 := 21) d_X_row_18 rfl rfl (rfl) (fun c7 => ?_) (fun c7 => ?_)
        · refine r_aload_n (x := some 0) (pc2 := 28) d_X_row_27 rfl rfl ?_
          refine r_bipush (v := (-32 : Int32)) (pc2 := 30) d_X_row_28 rfl (by decide) ?_
          refine q_callv (M2 := mi_X_refuse) (pc2 := 33) d_X_row_30 rfl k_X_75 cm_X_refuse cv_X_refuse (sh_0 hS) (by decide) rfl rfl rfl (Nat.le_of_ble_eq_true rfl) (c_X_refuse_0 (J := I) hS hR) (d2 := d - 1) (by omega) (Nat.le_of_eq (Nat.zero_add _)) (Nat.le_of_eq (Nat.zero_add _)) ?_
          obtain ⟨I8, hI8⟩ : ∃ x, x = u2 I 744 0 (I 744 0 + nI 1) := ⟨_, rfl⟩
          rw [← hI8]
          refine Run.ret (some (.int ((-32 : Int32)))) d_X_row_33 ⟨_, rfl⟩ ?_
          first | (exfalso; omega) | exact XH.bad hS 0 (by unfold o_row; rw [if_neg (by omega)]) (by decide) FrX.rf hI8
        · refine r_iload_n (pc2 := 22) d_X_row_21 rfl rfl ?_
          refine r_bipush (v := nI 40) (pc2 := 24) d_X_row_22 rfl (by decide) ?_
          refine q_icmp_le (tgt := 34) (A := n.toInt) (B := (40 : Int)) (pc2 := 27) d_X_row_24 rfl rfl (rfl) (nI_toInt (by omega)) (fun c9 => ?_) (fun c9 => ?_)
          · obtain ⟨sN, hsN, rfl, esN⟩ : ∃ a : Nat, a < 8 ∧ s = nI a ∧ s.toInt = (a : Int) := ⟨s.toInt.toNat, by omega, eq_nI (by omega), by omega⟩
            refine r_aload_n (x := some 0) (pc2 := 35) d_X_row_34 rfl rfl ?_
            refine q_getR (x := some 729) (pc2 := 38) d_X_row_35 rfl k_X_42 rfl (sh_0 hS) (rf_0_7 hR) ?_
            refine r_iload_n (pc2 := 39) d_X_row_38 rfl rfl ?_
            refine q_aaload (q := sN) (x := some (745 + 2 * sN)) (pc2 := 40) d_X_row_39 rfl (sh_729 hS) (by decide) (by decide) (nI_toInt (by omega)) (by omega) ((rf_sf hR (show sN < 8 by omega)).1) ?_
            refine r_iload_n (pc2 := 41) d_X_row_40 rfl rfl ?_
            refine r_iload_n (pc2 := 42) d_X_row_41 rfl rfl ?_
            refine r_callv (M2 := mi_Sh_takeRow) (pc2 := 45) d_X_row_42 rfl k_X_79 cm_Sh_takeRow cv_Sh_takeRow (sh_sf hS (show sN < 8 by omega)).1 (by decide) rfl rfl rfl (Nat.le_of_ble_eq_true rfl) (c_Sh_takeRow (J := I) (q := 745 + 2 * sN) (sh_sf hS (show sN < 8 by omega)).1 (sh_sf hS (show sN < 8 by omega)).2 (rf_sf hR (show sN < 8 by omega)).2 (k := k) (n := n) (by omega)) (d2 := d - 1) (by omega) (Nat.le_of_eq (Nat.zero_add _)) (Nat.le_of_eq (Nat.zero_add _)) (fun r2 h2 hq2 => ?_)
            obtain ⟨rfl, K1, K2, K3, K4, K5, R2, L2, rfl, hK1, hK2, hK3, hR2, hK4, hK5, hL2⟩ := hq2
            change Run _ _ _ _ _ _ [] _ _
            refine r_iconst (v := nI 1) (pc2 := 46) d_X_row_45 rfl (by decide) ?_
            refine Run.ret (some (.int (nI 1))) d_X_row_46 ⟨_, rfl⟩ ?_
            refine XH.val (by unfold o_row; rw [if_pos (by omega)]) ?_
            rw [esN, Int.toNat_natCast]
            have hRo : ∀ a j, ¬ (a = 745 + 2 * sN ∧ j = 3) → R2 a j = R a j := fun a j q => by
              by_cases y : a = 745 + 2 * sN
              · exact y ▸ rd_nk hR2 (fun e => q ⟨y, e⟩)
              · exact rd_ne hR2 y
            refine ⟨⟨fun a j q => by rw [rd_ne hK5 q, rd_ne hK4 q, rd_ne hK3 q, rd_ne hK2 q, rd_ne hK1 q], ⟨hRo, fun h => RfOK_h hsN h hRo⟩, fun a j q => flL_o hL2 q⟩, fun z E2 hE2 => Or.inr (Or.inl ⟨by omega, by rw [rd_nk hK5 (by decide), rd_eq hK4], rd_eq hK5, ⟨n.toInt.toNat, eq_nI (Int.toNat_of_nonneg (by omega)).symm, by omega⟩, rd_eq hR2, fun j hj => by rw [flL_i hL2 hj, hE2 j hj]⟩)⟩
          · refine r_aload_n (x := some 0) (pc2 := 28) d_X_row_27 rfl rfl ?_
            refine r_bipush (v := (-32 : Int32)) (pc2 := 30) d_X_row_28 rfl (by decide) ?_
            refine q_callv (M2 := mi_X_refuse) (pc2 := 33) d_X_row_30 rfl k_X_75 cm_X_refuse cv_X_refuse (sh_0 hS) (by decide) rfl rfl rfl (Nat.le_of_ble_eq_true rfl) (c_X_refuse_0 (J := I) hS hR) (d2 := d - 1) (by omega) (Nat.le_of_eq (Nat.zero_add _)) (Nat.le_of_eq (Nat.zero_add _)) ?_
            obtain ⟨I10, hI10⟩ : ∃ x, x = u2 I 744 0 (I 744 0 + nI 1) := ⟨_, rfl⟩
            rw [← hI10]
            refine Run.ret (some (.int ((-32 : Int32)))) d_X_row_33 ⟨_, rfl⟩ ?_
            first | (exfalso; omega) | exact XH.bad hS 0 (by unfold o_row; rw [if_neg (by omega)]) (by decide) FrX.rf hI10
theorem c_X_set {d : Nat} {I : Nat → Nat → Int32} {R : Nat → Nat → Option Nat} {L : Nat → Nat → Int64} {sh : Nat → Nat × Nat} {N : Nat} (hS : ShOK sh) (hR : RfOK R) {tK tF tC tS : Nat → Int32} {nt : Nat} (hV : TV tK tF tC nt) {so sz tz : Nat → Int32} {E : Nat → Int64} (hH : SHR tK tF tC tS I R L sh nt so sz tz E) {s i : Int32} {v : Int64} (hd : 8 ≤ d) : Mt mi_X_set d 0 0 [.ref 0, .int s, .int i, .long v] (I, R, L, sh, N) (XH I R L sh N (o_set so sz s i) (fun K R' L' => FH s.toInt.toNat I K R R' L L' ∧ ∀ (z : Int32) (E2 : Nat → Int64), (∀ j, j < 40 → E2 (40 * s.toInt.toNat + j) = if j = i.toInt.toNat then lowL (so s.toInt.toNat) v else E (40 * s.toInt.toNat + j)) → SH1 tK tF tC tS K R' L' sh nt s.toInt.toNat (so s.toInt.toNat) (sz s.toInt.toNat) z E2)) := by
  have hm1 : (-1 : Int32).toInt = -1 := by decide
  refine Mt.of pn_X (Nat.le_of_ble_eq_true rfl) ?_
  show Run mi_X_set d 0 0 0 [(0, .ref 0), (1, .int s), (2, .int i), (3, .long v)] [] (I, R, L, sh, N) _
  by_cases h7s : 0 ≤ s.toInt ∧ s.toInt ≤ 7
  · obtain ⟨sN, hsN, rfl, esN⟩ : ∃ a : Nat, a < 8 ∧ s = nI a ∧ s.toInt = (a : Int) := ⟨s.toInt.toNat, by omega, eq_nI (by omega), by omega⟩
    rcases hH sN (by omega) with ⟨ha, h0, h3⟩ | ⟨ha, h0, h1, ⟨zz, hz, hz40⟩, h3, hL⟩ | ⟨cc, mm, bb, nn, h3, hco, hnm, hbm, h0, h4, htz, hso⟩
    · have hrt : rtN (so sN) = -34 := by unfold rtN; rw [if_neg (by omega), if_pos (by omega)]
      refine r_aload_n (x := some 0) (pc2 := 1) d_X_set_0 rfl rfl ?_
      refine r_iload_n (pc2 := 2) d_X_set_1 rfl rfl ?_
      refine q_callv (M2 := mi_X_rowTrouble) (pc2 := 5) d_X_set_2 rfl k_X_83 cm_X_rowTrouble cv_X_rowTrouble (sh_0 hS) (by decide) rfl rfl rfl (Nat.le_of_ble_eq_true rfl) (c_X_rowTrouble hS hR hV hH (s := sN) (by omega) (by omega)) (d2 := d - 1) (by omega) (Nat.le_of_eq (Nat.zero_add _)) (Nat.le_of_eq (Nat.zero_add _)) ?_
      refine q_top (y := (-34 : Int32)) hrt ?_
      refine r_istore (pc2 := 7) d_X_set_5 rfl (Nat.le_of_ble_eq_true rfl) ?_
      refine r_iload (pc2 := 9) d_X_set_7 rfl rfl ?_
      refine q_if_eq (tgt := 19) (A := (-34 : Int)) (pc2 := 12) d_X_set_9 rfl rfl (by decide) (fun c1 => ?_) (fun c1 => ?_)
      · exfalso; omega
      refine r_aload_n (x := some 0) (pc2 := 13) d_X_set_12 rfl rfl ?_
      refine r_iload (pc2 := 15) d_X_set_13 rfl rfl ?_
      refine q_callv (M2 := mi_X_refuse) (pc2 := 18) d_X_set_15 rfl k_X_75 cm_X_refuse cv_X_refuse (sh_0 hS) (by decide) rfl rfl rfl (Nat.le_of_ble_eq_true rfl) (c_X_refuse_2 (J := I) hS hR) (d2 := d - 1) (by omega) (Nat.le_of_eq (Nat.zero_add _)) (Nat.le_of_eq (Nat.zero_add _)) ?_
      obtain ⟨I2, hI2⟩ : ∃ x, x = u2 I 744 2 (I 744 2 + nI 1) := ⟨_, rfl⟩
      rw [← hI2]
      refine Run.ret (some (.int ((-34 : Int32)))) d_X_set_18 ⟨_, rfl⟩ ?_
      first | (exfalso; omega) | exact XH.bad hS 2 (by unfold o_set; (try simp only [esN, Int.toNat_natCast]); (repeat (first | rw [if_pos (by omega)] | rw [if_neg (by omega)]))) (by decide) FrX.rf hI2
    · have hrt : rtN (so sN) = nI 0 := by unfold rtN; rw [if_neg (by omega), if_neg (by omega)]; rfl
      have hzi : (sz sN).toInt = (zz : Int) := by rw [hz]; exact nI_toInt (by omega)
      refine r_aload_n (x := some 0) (pc2 := 1) d_X_set_0 rfl rfl ?_
      refine r_iload_n (pc2 := 2) d_X_set_1 rfl rfl ?_
      refine q_callv (M2 := mi_X_rowTrouble) (pc2 := 5) d_X_set_2 rfl k_X_83 cm_X_rowTrouble cv_X_rowTrouble (sh_0 hS) (by decide) rfl rfl rfl (Nat.le_of_ble_eq_true rfl) (c_X_rowTrouble hS hR hV hH (s := sN) (by omega) (by omega)) (d2 := d - 1) (by omega) (Nat.le_of_eq (Nat.zero_add _)) (Nat.le_of_eq (Nat.zero_add _)) ?_
      refine q_top (y := nI 0) hrt ?_
      refine r_istore (pc2 := 7) d_X_set_5 rfl (Nat.le_of_ble_eq_true rfl) ?_
      refine r_iload (pc2 := 9) d_X_set_7 rfl rfl ?_
      refine q_if_eq (tgt := 19) (A := (0 : Int)) (pc2 := 12) d_X_set_9 rfl rfl (nI_toInt (by omega)) (fun c3 => ?_) (fun c3 => ?_)
      rotate_left
      · exfalso; omega
      refine r_iload_n (pc2 := 20) d_X_set_19 rfl rfl ?_
      refine q_if_lt (tgt := 36) (A := i.toInt) (pc2 := 23) d_X_set_20 rfl rfl (rfl) (fun c4 => ?_) (fun c4 => ?_)
      · refine r_aload_n (x := some 0) (pc2 := 37) d_X_set_36 rfl rfl ?_
        refine r_bipush (v := (-32 : Int32)) (pc2 := 39) d_X_set_37 rfl (by decide) ?_
        refine q_callv (M2 := mi_X_refuse) (pc2 := 42) d_X_set_39 rfl k_X_75 cm_X_refuse cv_X_refuse (sh_0 hS) (by decide) rfl rfl rfl (Nat.le_of_ble_eq_true rfl) (c_X_refuse_0 (J := I) hS hR) (d2 := d - 1) (by omega) (Nat.le_of_eq (Nat.zero_add _)) (Nat.le_of_eq (Nat.zero_add _)) ?_
        obtain ⟨I5, hI5⟩ : ∃ x, x = u2 I 744 0 (I 744 0 + nI 1) := ⟨_, rfl⟩
        rw [← hI5]
        refine Run.ret (some (.int ((-32 : Int32)))) d_X_set_42 ⟨_, rfl⟩ ?_
        first | (exfalso; omega) | exact XH.bad hS 0 (by unfold o_set; (try simp only [esN, hzi, Int.toNat_natCast]); (repeat (first | rw [if_pos (by omega)] | rw [if_neg (by omega)]))) (by decide) FrX.rf hI5
      · refine r_iload_n (pc2 := 24) d_X_set_23 rfl rfl ?_
        refine r_aload_n (x := some 0) (pc2 := 25) d_X_set_24 rfl rfl ?_
        refine q_getR (x := some 729) (pc2 := 28) d_X_set_25 rfl k_X_42 rfl (sh_0 hS) (rf_0_7 hR) ?_
        refine r_iload_n (pc2 := 29) d_X_set_28 rfl rfl ?_
        refine q_aaload (q := sN) (x := some (745 + 2 * sN)) (pc2 := 30) d_X_set_29 rfl (sh_729 hS) (by decide) (by decide) (nI_toInt (by omega)) (by omega) ((rf_sf hR (show sN < 8 by omega)).1) ?_
        refine q_getI (x := nI zz) (pc2 := 33) d_X_set_30 rfl k_X_86 (by decide) (sh_sf hS (show sN < 8 by omega)).1 (h1.trans hz) ?_
        refine q_icmp_lt (tgt := 43) (A := i.toInt) (B := ((zz : Nat) : Int)) (pc2 := 36) d_X_set_33 rfl rfl (rfl) (nI_toInt (by omega)) (fun c6 => ?_) (fun c6 => ?_)
        · obtain ⟨iN, hiN, rfl, eiN⟩ : ∃ a : Nat, a < 40 ∧ i = nI a ∧ i.toInt = (a : Int) := ⟨i.toInt.toNat, by omega, eq_nI (by omega), by omega⟩
          refine r_aload_n (x := some 0) (pc2 := 44) d_X_set_43 rfl rfl ?_
          refine q_getR (x := some 729) (pc2 := 47) d_X_set_44 rfl k_X_42 rfl (sh_0 hS) (rf_0_7 hR) ?_
          refine r_iload_n (pc2 := 48) d_X_set_47 rfl rfl ?_
          refine q_aaload (q := sN) (x := some (745 + 2 * sN)) (pc2 := 49) d_X_set_48 rfl (sh_729 hS) (by decide) (by decide) (nI_toInt (by omega)) (by omega) ((rf_sf hR (show sN < 8 by omega)).1) ?_
          refine r_iload_n (pc2 := 50) d_X_set_49 rfl rfl ?_
          refine r_lload_n (pc2 := 51) d_X_set_50 rfl rfl ?_
          refine r_callv (M2 := mi_Sh_put) (pc2 := 54) d_X_set_51 rfl k_X_89 cm_Sh_put cv_Sh_put (sh_sf hS (show sN < 8 by omega)).1 (by decide) rfl rfl rfl (Nat.le_of_ble_eq_true rfl) (c_Sh_put (J := I) (q := 745 + 2 * sN) (sh_sf hS (show sN < 8 by omega)).1 (sh_sf hS (show sN < 8 by omega)).2 (rf_sf hR (show sN < 8 by omega)).2 h0 ha (i := iN) (by omega) (v := v)) (d2 := d - 1) (by omega) (Nat.le_of_eq (Nat.zero_add _)) (Nat.le_of_eq (Nat.zero_add _)) (fun r2 h2 hq2 => ?_)
          obtain ⟨rfl, L2, rfl, hL2⟩ := hq2
          change Run _ _ _ _ _ _ [] _ _
          refine r_iconst (v := nI 1) (pc2 := 55) d_X_set_54 rfl (by decide) ?_
          refine Run.ret (some (.int (nI 1))) d_X_set_55 ⟨_, rfl⟩ ?_
          refine XH.val (by unfold o_set; simp only [esN, hzi, eiN, Int.toNat_natCast]; (repeat (first | rw [if_pos (by omega)] | rw [if_neg (by omega)]))) ?_
          rw [esN, eiN, Int.toNat_natCast, Int.toNat_natCast]
          refine ⟨⟨fun _ _ _ => rfl, ⟨fun _ _ _ => rfl, id⟩, fun a j q => rd_ne hL2 q⟩, fun z E2 hE2 => Or.inr (Or.inl ⟨ha, h0, h1, ⟨zz, hz, hz40⟩, h3, fun j hj => ?_⟩)⟩
          rw [hE2 j hj]
          by_cases y : j = iN
          · rw [if_pos y, y, rd_eq hL2]
          · rw [if_neg y, rd_nk hL2 y]; exact hL j hj
        · refine r_aload_n (x := some 0) (pc2 := 37) d_X_set_36 rfl rfl ?_
          refine r_bipush (v := (-32 : Int32)) (pc2 := 39) d_X_set_37 rfl (by decide) ?_
          refine q_callv (M2 := mi_X_refuse) (pc2 := 42) d_X_set_39 rfl k_X_75 cm_X_refuse cv_X_refuse (sh_0 hS) (by decide) rfl rfl rfl (Nat.le_of_ble_eq_true rfl) (c_X_refuse_0 (J := I) hS hR) (d2 := d - 1) (by omega) (Nat.le_of_eq (Nat.zero_add _)) (Nat.le_of_eq (Nat.zero_add _)) ?_
          obtain ⟨I7, hI7⟩ : ∃ x, x = u2 I 744 0 (I 744 0 + nI 1) := ⟨_, rfl⟩
          rw [← hI7]
          refine Run.ret (some (.int ((-32 : Int32)))) d_X_set_42 ⟨_, rfl⟩ ?_
          first | (exfalso; omega) | exact XH.bad hS 0 (by unfold o_set; (try simp only [esN, hzi, Int.toNat_natCast]); (repeat (first | rw [if_pos (by omega)] | rw [if_neg (by omega)]))) (by decide) FrX.rf hI7
    · obtain ⟨ha, hk3, hk8⟩ := SH1.ci hV (show bb + nn < nt by omega) hso
      have hrt : rtN (so sN) = -33 := by unfold rtN; rw [if_pos (by omega)]
      have hmm := hco.2.2.1.2
      refine r_aload_n (x := some 0) (pc2 := 1) d_X_set_0 rfl rfl ?_
      refine r_iload_n (pc2 := 2) d_X_set_1 rfl rfl ?_
      refine q_callv (M2 := mi_X_rowTrouble) (pc2 := 5) d_X_set_2 rfl k_X_83 cm_X_rowTrouble cv_X_rowTrouble (sh_0 hS) (by decide) rfl rfl rfl (Nat.le_of_ble_eq_true rfl) (c_X_rowTrouble hS hR hV hH (s := sN) (by omega) (by omega)) (d2 := d - 1) (by omega) (Nat.le_of_eq (Nat.zero_add _)) (Nat.le_of_eq (Nat.zero_add _)) ?_
      refine q_top (y := (-33 : Int32)) hrt ?_
      refine r_istore (pc2 := 7) d_X_set_5 rfl (Nat.le_of_ble_eq_true rfl) ?_
      refine r_iload (pc2 := 9) d_X_set_7 rfl rfl ?_
      refine q_if_eq (tgt := 19) (A := (-33 : Int)) (pc2 := 12) d_X_set_9 rfl rfl (by decide) (fun c8 => ?_) (fun c8 => ?_)
      · exfalso; omega
      refine r_aload_n (x := some 0) (pc2 := 13) d_X_set_12 rfl rfl ?_
      refine r_iload (pc2 := 15) d_X_set_13 rfl rfl ?_
      refine q_callv (M2 := mi_X_refuse) (pc2 := 18) d_X_set_15 rfl k_X_75 cm_X_refuse cv_X_refuse (sh_0 hS) (by decide) rfl rfl rfl (Nat.le_of_ble_eq_true rfl) (c_X_refuse_1 (J := I) hS hR) (d2 := d - 1) (by omega) (Nat.le_of_eq (Nat.zero_add _)) (Nat.le_of_eq (Nat.zero_add _)) ?_
      obtain ⟨I9, hI9⟩ : ∃ x, x = u2 I 744 1 (I 744 1 + nI 1) := ⟨_, rfl⟩
      rw [← hI9]
      refine Run.ret (some (.int ((-33 : Int32)))) d_X_set_18 ⟨_, rfl⟩ ?_
      first | (exfalso; omega) | exact XH.bad hS 1 (by unfold o_set; (try simp only [esN, Int.toNat_natCast]); (repeat (first | rw [if_pos (by omega)] | rw [if_neg (by omega)]))) (by decide) FrX.rf hI9
  · skip
    refine r_aload_n (x := some 0) (pc2 := 1) d_X_set_0 rfl rfl ?_
    refine r_iload_n (pc2 := 2) d_X_set_1 rfl rfl ?_
    refine q_callv (M2 := mi_X_rowTrouble) (pc2 := 5) d_X_set_2 rfl k_X_83 cm_X_rowTrouble cv_X_rowTrouble (sh_0 hS) (by decide) rfl rfl rfl (Nat.le_of_ble_eq_true rfl) (c_X_rowTroubleB hS hR hV hH h7s (by omega)) (d2 := d - 1) (by omega) (Nat.le_of_eq (Nat.zero_add _)) (Nat.le_of_eq (Nat.zero_add _)) ?_
    refine r_istore (pc2 := 7) d_X_set_5 rfl (Nat.le_of_ble_eq_true rfl) ?_
    refine r_iload (pc2 := 9) d_X_set_7 rfl rfl ?_
    refine q_if_eq (tgt := 19) (A := (-32 : Int)) (pc2 := 12) d_X_set_9 rfl rfl (by decide) (fun c10 => ?_) (fun c10 => ?_)
    · exfalso; omega
    refine r_aload_n (x := some 0) (pc2 := 13) d_X_set_12 rfl rfl ?_
    refine r_iload (pc2 := 15) d_X_set_13 rfl rfl ?_
    refine q_callv (M2 := mi_X_refuse) (pc2 := 18) d_X_set_15 rfl k_X_75 cm_X_refuse cv_X_refuse (sh_0 hS) (by decide) rfl rfl rfl (Nat.le_of_ble_eq_true rfl) (c_X_refuse_0 (J := I) hS hR) (d2 := d - 1) (by omega) (Nat.le_of_eq (Nat.zero_add _)) (Nat.le_of_eq (Nat.zero_add _)) ?_
    obtain ⟨I11, hI11⟩ : ∃ x, x = u2 I 744 0 (I 744 0 + nI 1) := ⟨_, rfl⟩
    rw [← hI11]
    refine Run.ret (some (.int ((-32 : Int32)))) d_X_set_18 ⟨_, rfl⟩ ?_
    first | (exfalso; omega) | exact XH.bad hS 0 (by unfold o_set; (try simp only [Int.toNat_natCast]); (repeat (first | rw [if_pos (by omega)] | rw [if_neg (by omega)]))) (by decide) FrX.rf hI11
