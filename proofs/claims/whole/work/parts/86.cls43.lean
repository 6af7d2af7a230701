/-! THE CLASS: what a condition says -/
theorem bits_xor {P Q : Nat → Bool} {n : Nat} (hn : n ≤ 32) : bits P n ^^^ bits Q n = bits (fun x => P x ^^ Q x) n := by
  refine b_ext (fun i hi => ?_)
  rw [b_xor, bt_bits hn hi, bt_bits hn hi, bt_bits hn hi]
  cases decide (i < n) <;> cases P i <;> cases Q i <;> rfl
theorem bits_and {P Q : Nat → Bool} {n : Nat} (hn : n ≤ 32) : bits P n &&& bits Q n = bits (fun x => P x && Q x) n := by
  refine b_ext (fun i hi => ?_)
  rw [b_and, bt_bits hn hi, bt_bits hn hi, bt_bits hn hi]
  cases decide (i < n) <;> cases P i <;> cases Q i <;> rfl
theorem pt_0 {K : Nat → Int32} {I : Nat → Nat → Int32} {c b n : Nat} {q : Int32} (h : q.toInt = 0) : ptV K I c b n q = nI n := if_pos h
theorem pt_1 {K : Nat → Int32} {I : Nat → Nat → Int32} {c b n : Nat} {q : Int32} (h : q.toInt = 1) (hk : (K (b + n)).toInt = 3 ∨ 7 ≤ (K (b + n)).toInt) : ptV K I c b n q = I (c + 2) n := by unfold ptV; rw [if_neg (by omega), if_pos ⟨h, hk⟩]
theorem pt_2 {K : Nat → Int32} {I : Nat → Nat → Int32} {c b n : Nat} {q : Int32} (h : q.toInt = 2) (hk : 7 ≤ (K (b + n)).toInt) : ptV K I c b n q = I (c + 3) n := by unfold ptV; rw [if_neg (by omega), if_neg (by omega), if_pos ⟨h, hk⟩]
theorem pt_n {K : Nat → Int32} {I : Nat → Nat → Int32} {c b n : Nat} {q : Int32} (h0 : q.toInt ≠ 0) (h1 : ¬ (q.toInt = 1 ∧ ((K (b + n)).toInt = 3 ∨ 7 ≤ (K (b + n)).toInt))) (h2 : ¬ (q.toInt = 2 ∧ 7 ≤ (K (b + n)).toInt)) : ptV K I c b n q = -1 := by unfold ptV; rw [if_neg h0, if_neg h1, if_neg h2]
theorem c_X_sayingOf_0 {d : Nat} {I : Nat → Nat → Int32} {R : Nat → Nat → Option Nat} {L : Nat → Nat → Int64} {sh : Nat → Nat × Nat} {N : Nat} (hS : ShOK sh) (hR : RfOK R) {tK tF tC tS : Nat → Int32} {nt : Nat} (hV : TV tK tF tC nt) (hV2 : TV2 tK tF tC tS nt) (hnt6 : nt ≤ 1000000) {G : Nat → Int32} {nP nF nS : Nat} (hW : WFA G nP nF nt) (hWT : WFT G nF nS) (hKW : WFK G nP nF) {rk : Nat → Nat} (hrk : RK G nF rk) (hD : DR tK tF tC tS I R sh nt 0 G nP nF nS) {c m b : Nat} (hC : CO tK tF tC tS I R sh c m b) (hbn : b + m ≤ nt) {n : Nat} (hn : n < m)  (hd : 12 ≤ d) : Mt mi_X_sayingOf d 0 0 [.ref 0, .ref c, .int (nI n), .int (nI 0)] (I, R, L, sh, N) (fun r h2 => ∃ K, h2 = (K, R, L, sh, N) ∧ r = some (.int (nI (cnt (trP (TRK tK tF tC tS) G (b + n)) nP))) ∧ FrX sh I K) := by
  obtain ⟨hPc, hP24, hFc, hF12, hWF, hWP⟩ := id hW
  have hm250 := hC.2.2.1.2
  have hkb := (hV (b + n) (by omega)).1
  refine Mt.of pn_X (Nat.le_of_ble_eq_true rfl) ?_
  show Run mi_X_sayingOf d 0 0 0 [(0, .ref 0), (1, .ref c), (2, .int (nI n)), (3, .int (nI 0))] [] (I, R, L, sh, N) _
  refine r_iload_n (pc2 := 1) d_X_sayingOf_0 rfl rfl ?_
  refine q_switch (tgt := 179) (A := (0 : Int)) d_X_sayingOf_1 rfl (nI_toInt (by omega)) (fun off t2 c1a c1b c1o c1t => ?_) (by decide) (by decide) (fun c1 => ?_)
  · have c1c : (0 : Int) = 0 ∨ (0 : Int) = 1 ∨ (0 : Int) = 2 ∨ (0 : Int) = 3 ∨ (0 : Int) = 4 ∨ (0 : Int) = 5 ∨ (0 : Int) = 6 ∨ (0 : Int) = 7 ∨ (0 : Int) = 8 := by omega
    rcases c1c with c1e | c1e | c1e | c1e | c1e | c1e | c1e | c1e | c1e
    · obtain rfl : t2 = 52 := by
        have hh : (some (51 : Int)) = some off := c1o
        cases hh; omega
      refine r_aload_n (x := some 0) (pc2 := 53) d_X_sayingOf_52 rfl rfl ?_
      refine r_aload_n (x := some c) (pc2 := 54) d_X_sayingOf_53 rfl rfl ?_
      refine r_iload_n (pc2 := 55) d_X_sayingOf_54 rfl rfl ?_
      refine r_callv (M2 := mi_X_personsOf) (pc2 := 58) d_X_sayingOf_55 rfl k_X_161 cm_X_personsOf cv_X_personsOf (sh_0 hS) (by decide) rfl rfl rfl (Nat.le_of_ble_eq_true rfl) (c_X_personsOf (I := I) hS hR hV hV2 hnt6 hW hWT hKW hrk hD hC hbn (n := n) (by omega) (d := d - 1) (by omega)) (d2 := d - 1) (by omega) (Nat.le_of_eq (Nat.zero_add _)) (Nat.le_of_eq (Nat.zero_add _)) (fun r2 h2 hq2 => ?_)
      obtain ⟨K2, rfl, rfl, hK2⟩ := hq2
      change Run _ _ _ _ _ _ [.int (bits (trP (TRK tK tF tC tS) G (b + n)) nP)] _ _
      refine q_calls (M2 := mi_JI_bitCount) (pc2 := 61) d_X_sayingOf_58 rfl k_X_165 cm_JI_bitCount cs_JI_bitCount rfl rfl (Nat.le_of_ble_eq_true rfl) (c_JI_bitCount (x := bits (trP (TRK tK tF tC tS) G (b + n)) nP)) (d2 := d - 1) (by omega) (Nat.le_of_eq (Nat.zero_add _)) (Nat.le_of_eq (Nat.zero_add _)) ?_
      refine q_top (y := nI (cnt (trP (TRK tK tF tC tS) G (b + n)) nP)) (by rw [cnt_bits (by omega)]) ?_
      refine Run.ret (some (.int (nI (cnt (trP (TRK tK tF tC tS) G (b + n)) nP)))) d_X_sayingOf_61 ⟨_, rfl⟩ ?_
      exact ⟨_, rfl, rfl, (frT hS (show (sh (c + 5)).1 = 14 by rw [hC.1.2.2.2.2.2]) hK2)⟩
    · exfalso; omega
    · exfalso; omega
    · exfalso; omega
    · exfalso; omega
    · exfalso; omega
    · exfalso; omega
    · exfalso; omega
    · exfalso; omega
  · exfalso; omega
theorem c_X_sayingOf_1 {d : Nat} {I : Nat → Nat → Int32} {R : Nat → Nat → Option Nat} {L : Nat → Nat → Int64} {sh : Nat → Nat × Nat} {N : Nat} (hS : ShOK sh) (hR : RfOK R) {tK tF tC tS : Nat → Int32} {nt : Nat} (hV : TV tK tF tC nt) (hV2 : TV2 tK tF tC tS nt) (hnt6 : nt ≤ 1000000) {G : Nat → Int32} {nP nF nS : Nat} (hW : WFA G nP nF nt) (hWT : WFT G nF nS) (hKW : WFK G nP nF) {rk : Nat → Nat} (hrk : RK G nF rk) (hD : DR tK tF tC tS I R sh nt 0 G nP nF nS) {c m b : Nat} (hC : CO tK tF tC tS I R sh c m b) (hbn : b + m ≤ nt) {n : Nat} (hn : n < m)  (hd : 12 ≤ d) : Mt mi_X_sayingOf d 0 0 [.ref 0, .ref c, .int (nI n), .int (nI 1)] (I, R, L, sh, N) (fun r h2 => ∃ K, h2 = (K, R, L, sh, N) ∧ r = some (.int (tK (b + n) - nI 4)) ∧ FrX sh I K) := by
  obtain ⟨hPc, hP24, hFc, hF12, hWF, hWP⟩ := id hW
  have hm250 := hC.2.2.1.2
  have hkb := (hV (b + n) (by omega)).1
  refine Mt.of pn_X (Nat.le_of_ble_eq_true rfl) ?_
  show Run mi_X_sayingOf d 0 0 0 [(0, .ref 0), (1, .ref c), (2, .int (nI n)), (3, .int (nI 1))] [] (I, R, L, sh, N) _
  refine r_iload_n (pc2 := 1) d_X_sayingOf_0 rfl rfl ?_
  refine q_switch (tgt := 179) (A := (1 : Int)) d_X_sayingOf_1 rfl (nI_toInt (by omega)) (fun off t2 c1a c1b c1o c1t => ?_) (by decide) (by decide) (fun c1 => ?_)
  · have c1c : (1 : Int) = 0 ∨ (1 : Int) = 1 ∨ (1 : Int) = 2 ∨ (1 : Int) = 3 ∨ (1 : Int) = 4 ∨ (1 : Int) = 5 ∨ (1 : Int) = 6 ∨ (1 : Int) = 7 ∨ (1 : Int) = 8 := by omega
    rcases c1c with c1e | c1e | c1e | c1e | c1e | c1e | c1e | c1e | c1e
    · exfalso; omega
    · obtain rfl : t2 = 62 := by
        have hh : (some (61 : Int)) = some off := c1o
        cases hh; omega
      refine r_aload_n (x := some c) (pc2 := 63) d_X_sayingOf_62 rfl rfl ?_
      refine r_iload_n (pc2 := 64) d_X_sayingOf_63 rfl rfl ?_
      refine q_callv (M2 := mi_Co_kindOf) (pc2 := 67) d_X_sayingOf_64 rfl k_X_151 cm_Co_kindOf cv_Co_kindOf hC.1.1 (by decide) rfl rfl rfl (Nat.le_of_ble_eq_true rfl) (c_Co_kindOf (I := I) hC (n := n) (by omega)) (d2 := d - 1) (by omega) (Nat.le_of_eq (Nat.zero_add _)) (Nat.le_of_eq (Nat.zero_add _)) ?_
      refine r_iconst (v := nI 4) (pc2 := 68) d_X_sayingOf_67 rfl (by decide) ?_
      refine r_isub (pc2 := 69) d_X_sayingOf_68 rfl ?_
      refine Run.ret (some (.int ((tK (b + n)) - (nI 4)))) d_X_sayingOf_69 ⟨_, rfl⟩ ?_
      exact ⟨_, rfl, rfl, FrX.rf⟩
    · exfalso; omega
    · exfalso; omega
    · exfalso; omega
    · exfalso; omega
    · exfalso; omega
    · exfalso; omega
    · exfalso; omega
  · exfalso; omega
theorem c_X_sayingOf_2 {d : Nat} {I : Nat → Nat → Int32} {R : Nat → Nat → Option Nat} {L : Nat → Nat → Int64} {sh : Nat → Nat × Nat} {N : Nat} (hS : ShOK sh) (hR : RfOK R) {tK tF tC tS : Nat → Int32} {nt : Nat} (hV : TV tK tF tC nt) (hV2 : TV2 tK tF tC tS nt) (hnt6 : nt ≤ 1000000) {G : Nat → Int32} {nP nF nS : Nat} (hW : WFA G nP nF nt) (hWT : WFT G nF nS) (hKW : WFK G nP nF) {rk : Nat → Nat} (hrk : RK G nF rk) (hD : DR tK tF tC tS I R sh nt 0 G nP nF nS) {c m b : Nat} (hC : CO tK tF tC tS I R sh c m b) (hbn : b + m ≤ nt) {n : Nat} (hn : n < m) (hk : 7 ≤ (tK (b + n)).toInt) {yN : Nat} (hy : yN < n) (ey : I (c + 3) n = nI yN) (hd : 12 ≤ d) : Mt mi_X_sayingOf d 0 0 [.ref 0, .ref c, .int (nI n), .int (nI 2)] (I, R, L, sh, N) (fun r h2 => ∃ K, h2 = (K, R, L, sh, N) ∧ r = some (.int (tK (b + yN))) ∧ FrX sh I K) := by
  obtain ⟨hPc, hP24, hFc, hF12, hWF, hWP⟩ := id hW
  have hm250 := hC.2.2.1.2
  have hkb := (hV (b + n) (by omega)).1
  refine Mt.of pn_X (Nat.le_of_ble_eq_true rfl) ?_
  show Run mi_X_sayingOf d 0 0 0 [(0, .ref 0), (1, .ref c), (2, .int (nI n)), (3, .int (nI 2))] [] (I, R, L, sh, N) _
  refine r_iload_n (pc2 := 1) d_X_sayingOf_0 rfl rfl ?_
  refine q_switch (tgt := 179) (A := (2 : Int)) d_X_sayingOf_1 rfl (nI_toInt (by omega)) (fun off t2 c1a c1b c1o c1t => ?_) (by decide) (by decide) (fun c1 => ?_)
  · have c1c : (2 : Int) = 0 ∨ (2 : Int) = 1 ∨ (2 : Int) = 2 ∨ (2 : Int) = 3 ∨ (2 : Int) = 4 ∨ (2 : Int) = 5 ∨ (2 : Int) = 6 ∨ (2 : Int) = 7 ∨ (2 : Int) = 8 := by omega
    rcases c1c with c1e | c1e | c1e | c1e | c1e | c1e | c1e | c1e | c1e
    · exfalso; omega
    · exfalso; omega
    · obtain rfl : t2 = 70 := by
        have hh : (some (69 : Int)) = some off := c1o
        cases hh; omega
      refine r_aload_n (x := some c) (pc2 := 71) d_X_sayingOf_70 rfl rfl ?_
      refine r_aload_n (x := some c) (pc2 := 72) d_X_sayingOf_71 rfl rfl ?_
      refine r_iload_n (pc2 := 73) d_X_sayingOf_72 rfl rfl ?_
      refine r_iconst (v := nI 2) (pc2 := 74) d_X_sayingOf_73 rfl (by decide) ?_
      refine q_callv (M2 := mi_Co_partOf) (pc2 := 77) d_X_sayingOf_74 rfl k_X_140 cm_Co_partOf cv_Co_partOf hC.1.1 (by decide) rfl rfl rfl (Nat.le_of_ble_eq_true rfl) (c_Co_partOf (I := I) hV hC hbn (n := n) (by omega) (q := nI 2) (d := d - 1) (by omega)) (d2 := d - 1) (by omega) (Nat.le_of_eq (Nat.zero_add _)) (Nat.le_of_eq (Nat.zero_add _)) ?_
      refine q_top (y := nI yN) ((pt_2 (by decide) (by omega)).trans ey) ?_
      refine q_callv (M2 := mi_Co_kindOf) (pc2 := 80) d_X_sayingOf_77 rfl k_X_151 cm_Co_kindOf cv_Co_kindOf hC.1.1 (by decide) rfl rfl rfl (Nat.le_of_ble_eq_true rfl) (c_Co_kindOf (I := I) hC (n := yN) (by omega)) (d2 := d - 1) (by omega) (Nat.le_of_eq (Nat.zero_add _)) (Nat.le_of_eq (Nat.zero_add _)) ?_
      refine Run.ret (some (.int (tK (b + yN)))) d_X_sayingOf_80 ⟨_, rfl⟩ ?_
      exact ⟨_, rfl, rfl, FrX.rf⟩
    · exfalso; omega
    · exfalso; omega
    · exfalso; omega
    · exfalso; omega
    · exfalso; omega
    · exfalso; omega
  · exfalso; omega
theorem c_X_sayingOf_3 {d : Nat} {I : Nat → Nat → Int32} {R : Nat → Nat → Option Nat} {L : Nat → Nat → Int64} {sh : Nat → Nat × Nat} {N : Nat} (hS : ShOK sh) (hR : RfOK R) {tK tF tC tS : Nat → Int32} {nt : Nat} (hV : TV tK tF tC nt) (hV2 : TV2 tK tF tC tS nt) (hnt6 : nt ≤ 1000000) {G : Nat → Int32} {nP nF nS : Nat} (hW : WFA G nP nF nt) (hWT : WFT G nF nS) (hKW : WFK G nP nF) {rk : Nat → Nat} (hrk : RK G nF rk) (hD : DR tK tF tC tS I R sh nt 0 G nP nF nS) {c m b : Nat} (hC : CO tK tF tC tS I R sh c m b) (hbn : b + m ≤ nt) {n : Nat} (hn : n < m) (hk : (tK (b + n)).toInt = 3) {xN : Nat} (hx : xN < n) (ex : I (c + 2) n = nI xN) (hd : 12 ≤ d) : Mt mi_X_sayingOf d 0 0 [.ref 0, .ref c, .int (nI n), .int (nI 3)] (I, R, L, sh, N) (fun r h2 => ∃ K, h2 = (K, R, L, sh, N) ∧ r = some (.int (tK (b + xN))) ∧ FrX sh I K) := by
  obtain ⟨hPc, hP24, hFc, hF12, hWF, hWP⟩ := id hW
  have hm250 := hC.2.2.1.2
  have hkb := (hV (b + n) (by omega)).1
  refine Mt.of pn_X (Nat.le_of_ble_eq_true rfl) ?_
  show Run mi_X_sayingOf d 0 0 0 [(0, .ref 0), (1, .ref c), (2, .int (nI n)), (3, .int (nI 3))] [] (I, R, L, sh, N) _
  refine r_iload_n (pc2 := 1) d_X_sayingOf_0 rfl rfl ?_
  refine q_switch (tgt := 179) (A := (3 : Int)) d_X_sayingOf_1 rfl (nI_toInt (by omega)) (fun off t2 c1a c1b c1o c1t => ?_) (by decide) (by decide) (fun c1 => ?_)
  · have c1c : (3 : Int) = 0 ∨ (3 : Int) = 1 ∨ (3 : Int) = 2 ∨ (3 : Int) = 3 ∨ (3 : Int) = 4 ∨ (3 : Int) = 5 ∨ (3 : Int) = 6 ∨ (3 : Int) = 7 ∨ (3 : Int) = 8 := by omega
    rcases c1c with c1e | c1e | c1e | c1e | c1e | c1e | c1e | c1e | c1e
    · exfalso; omega
    · exfalso; omega
    · exfalso; omega
    · obtain rfl : t2 = 81 := by
        have hh : (some (80 : Int)) = some off := c1o
        cases hh; omega
      refine r_aload_n (x := some c) (pc2 := 82) d_X_sayingOf_81 rfl rfl ?_
      refine r_aload_n (x := some c) (pc2 := 83) d_X_sayingOf_82 rfl rfl ?_
      refine r_iload_n (pc2 := 84) d_X_sayingOf_83 rfl rfl ?_
      refine r_iconst (v := nI 1) (pc2 := 85) d_X_sayingOf_84 rfl (by decide) ?_
      refine q_callv (M2 := mi_Co_partOf) (pc2 := 88) d_X_sayingOf_85 rfl k_X_140 cm_Co_partOf cv_Co_partOf hC.1.1 (by decide) rfl rfl rfl (Nat.le_of_ble_eq_true rfl) (c_Co_partOf (I := I) hV hC hbn (n := n) (by omega) (q := nI 1) (d := d - 1) (by omega)) (d2 := d - 1) (by omega) (Nat.le_of_eq (Nat.zero_add _)) (Nat.le_of_eq (Nat.zero_add _)) ?_
      refine q_top (y := nI xN) ((pt_1 (by decide) (by omega)).trans ex) ?_
      refine q_callv (M2 := mi_Co_kindOf) (pc2 := 91) d_X_sayingOf_88 rfl k_X_151 cm_Co_kindOf cv_Co_kindOf hC.1.1 (by decide) rfl rfl rfl (Nat.le_of_ble_eq_true rfl) (c_Co_kindOf (I := I) hC (n := xN) (by omega)) (d2 := d - 1) (by omega) (Nat.le_of_eq (Nat.zero_add _)) (Nat.le_of_eq (Nat.zero_add _)) ?_
      refine Run.ret (some (.int (tK (b + xN)))) d_X_sayingOf_91 ⟨_, rfl⟩ ?_
      exact ⟨_, rfl, rfl, FrX.rf⟩
    · exfalso; omega
    · exfalso; omega
    · exfalso; omega
    · exfalso; omega
    · exfalso; omega
  · exfalso; omega
theorem c_X_sayingOf_4 {d : Nat} {I : Nat → Nat → Int32} {R : Nat → Nat → Option Nat} {L : Nat → Nat → Int64} {sh : Nat → Nat × Nat} {N : Nat} (hS : ShOK sh) (hR : RfOK R) {tK tF tC tS : Nat → Int32} {nt : Nat} (hV : TV tK tF tC nt) (hV2 : TV2 tK tF tC tS nt) (hnt6 : nt ≤ 1000000) {G : Nat → Int32} {nP nF nS : Nat} (hW : WFA G nP nF nt) (hWT : WFT G nF nS) (hKW : WFK G nP nF) {rk : Nat → Nat} (hrk : RK G nF rk) (hD : DR tK tF tC tS I R sh nt 0 G nP nF nS) {c m b : Nat} (hC : CO tK tF tC tS I R sh c m b) (hbn : b + m ≤ nt) {n : Nat} (hn : n < m)  (hd : 12 ≤ d) : Mt mi_X_sayingOf d 0 0 [.ref 0, .ref c, .int (nI n), .int (nI 4)] (I, R, L, sh, N) (fun r h2 => ∃ K, h2 = (K, R, L, sh, N) ∧ r = some (.int (nI 1)) ∧ FrX sh I K) := by
  obtain ⟨hPc, hP24, hFc, hF12, hWF, hWP⟩ := id hW
  have hm250 := hC.2.2.1.2
  have hkb := (hV (b + n) (by omega)).1
  refine Mt.of pn_X (Nat.le_of_ble_eq_true rfl) ?_
  show Run mi_X_sayingOf d 0 0 0 [(0, .ref 0), (1, .ref c), (2, .int (nI n)), (3, .int (nI 4))] [] (I, R, L, sh, N) _
  refine r_iload_n (pc2 := 1) d_X_sayingOf_0 rfl rfl ?_
  refine q_switch (tgt := 179) (A := (4 : Int)) d_X_sayingOf_1 rfl (nI_toInt (by omega)) (fun off t2 c1a c1b c1o c1t => ?_) (by decide) (by decide) (fun c1 => ?_)
  · have c1c : (4 : Int) = 0 ∨ (4 : Int) = 1 ∨ (4 : Int) = 2 ∨ (4 : Int) = 3 ∨ (4 : Int) = 4 ∨ (4 : Int) = 5 ∨ (4 : Int) = 6 ∨ (4 : Int) = 7 ∨ (4 : Int) = 8 := by omega
    rcases c1c with c1e | c1e | c1e | c1e | c1e | c1e | c1e | c1e | c1e
    · exfalso; omega
    · exfalso; omega
    · exfalso; omega
    · exfalso; omega
    · obtain rfl : t2 = 179 := by
        have hh : (some (178 : Int)) = some off := c1o
        cases hh; omega
      refine r_iconst (v := nI 1) (pc2 := 180) d_X_sayingOf_179 rfl (by decide) ?_
      refine Run.ret (some (.int (nI 1))) d_X_sayingOf_180 ⟨_, rfl⟩ ?_
      exact ⟨_, rfl, rfl, FrX.rf⟩
    · exfalso; omega
    · exfalso; omega
    · exfalso; omega
    · exfalso; omega
  · exfalso; omega
theorem c_X_sayingOf_5 {d : Nat} {I : Nat → Nat → Int32} {R : Nat → Nat → Option Nat} {L : Nat → Nat → Int64} {sh : Nat → Nat × Nat} {N : Nat} (hS : ShOK sh) (hR : RfOK R) {tK tF tC tS : Nat → Int32} {nt : Nat} (hV : TV tK tF tC nt) (hV2 : TV2 tK tF tC tS nt) (hnt6 : nt ≤ 1000000) {G : Nat → Int32} {nP nF nS : Nat} (hW : WFA G nP nF nt) (hWT : WFT G nF nS) (hKW : WFK G nP nF) {rk : Nat → Nat} (hrk : RK G nF rk) (hD : DR tK tF tC tS I R sh nt 0 G nP nF nS) {c m b : Nat} (hC : CO tK tF tC tS I R sh c m b) (hbn : b + m ≤ nt) {n : Nat} (hn : n < m) (hk : (tK (b + n)).toInt = 5) (hd : 12 ≤ d) : Mt mi_X_sayingOf d 0 0 [.ref 0, .ref c, .int (nI n), .int (nI 5)] (I, R, L, sh, N) (fun r h2 => ∃ K, h2 = (K, R, L, sh, N) ∧ r = some (.int (nI 10 * tF (b + n) + tC (b + n))) ∧ FrX sh I K) := by
  obtain ⟨hPc, hP24, hFc, hF12, hWF, hWP⟩ := id hW
  have hm250 := hC.2.2.1.2
  have hkb := (hV (b + n) (by omega)).1
  refine Mt.of pn_X (Nat.le_of_ble_eq_true rfl) ?_
  show Run mi_X_sayingOf d 0 0 0 [(0, .ref 0), (1, .ref c), (2, .int (nI n)), (3, .int (nI 5))] [] (I, R, L, sh, N) _
  have hx5 : I (c + 2) n = tF (b + n) ∧ I (c + 3) n = tC (b + n) := by
    have h := (hC.2.2.2.2 n hn).2.2.2
    exact ⟨(h.1 hk).1, (h.1 hk).2.1⟩
  refine r_iload_n (pc2 := 1) d_X_sayingOf_0 rfl rfl ?_
  refine q_switch (tgt := 179) (A := (5 : Int)) d_X_sayingOf_1 rfl (nI_toInt (by omega)) (fun off t2 c1a c1b c1o c1t => ?_) (by decide) (by decide) (fun c1 => ?_)
  · have c1c : (5 : Int) = 0 ∨ (5 : Int) = 1 ∨ (5 : Int) = 2 ∨ (5 : Int) = 3 ∨ (5 : Int) = 4 ∨ (5 : Int) = 5 ∨ (5 : Int) = 6 ∨ (5 : Int) = 7 ∨ (5 : Int) = 8 := by omega
    rcases c1c with c1e | c1e | c1e | c1e | c1e | c1e | c1e | c1e | c1e
    · exfalso; omega
    · exfalso; omega
    · exfalso; omega
    · exfalso; omega
    · exfalso; omega
    · obtain rfl : t2 = 92 := by
        have hh : (some (91 : Int)) = some off := c1o
        cases hh; omega
      refine r_bipush (v := nI 10) (pc2 := 94) d_X_sayingOf_92 rfl (by decide) ?_
      refine r_aload_n (x := some c) (pc2 := 95) d_X_sayingOf_94 rfl rfl ?_
      refine q_getR (x := some (c + 2)) (pc2 := 98) d_X_sayingOf_95 rfl k_X_170 rfl hC.1.1 hC.2.1.2.1 ?_
      refine r_iload_n (pc2 := 99) d_X_sayingOf_98 rfl rfl ?_
      refine q_iaload (q := n) (x := tF (b + n)) (pc2 := 100) d_X_sayingOf_99 rfl (hC.1.2.2.1) (nI_toInt (by omega)) (by omega) hx5.1 ?_
      refine r_imul (pc2 := 101) d_X_sayingOf_100 rfl ?_
      refine r_aload_n (x := some c) (pc2 := 102) d_X_sayingOf_101 rfl rfl ?_
      refine q_getR (x := some (c + 3)) (pc2 := 105) d_X_sayingOf_102 rfl k_X_173 rfl hC.1.1 hC.2.1.2.2.1 ?_
      refine r_iload_n (pc2 := 106) d_X_sayingOf_105 rfl rfl ?_
      refine q_iaload (q := n) (x := tC (b + n)) (pc2 := 107) d_X_sayingOf_106 rfl (hC.1.2.2.2.1) (nI_toInt (by omega)) (by omega) hx5.2 ?_
      refine r_iadd (pc2 := 108) d_X_sayingOf_107 rfl ?_
      refine Run.ret (some (.int (((nI 10) * (tF (b + n))) + (tC (b + n))))) d_X_sayingOf_108 ⟨_, rfl⟩ ?_
      exact ⟨_, rfl, rfl, FrX.rf⟩
    · exfalso; omega
    · exfalso; omega
    · exfalso; omega
  · exfalso; omega
theorem c_X_sayingOf_6 {d : Nat} {I : Nat → Nat → Int32} {R : Nat → Nat → Option Nat} {L : Nat → Nat → Int64} {sh : Nat → Nat × Nat} {N : Nat} (hS : ShOK sh) (hR : RfOK R) {tK tF tC tS : Nat → Int32} {nt : Nat} (hV : TV tK tF tC nt) (hV2 : TV2 tK tF tC tS nt) (hnt6 : nt ≤ 1000000) {G : Nat → Int32} {nP nF nS : Nat} (hW : WFA G nP nF nt) (hWT : WFT G nF nS) (hKW : WFK G nP nF) {rk : Nat → Nat} (hrk : RK G nF rk) (hD : DR tK tF tC tS I R sh nt 0 G nP nF nS) {c m b : Nat} (hC : CO tK tF tC tS I R sh c m b) (hbn : b + m ≤ nt) {n : Nat} (hn : n < m) (hk : (tK (b + n)).toInt = 6) (hd : 12 ≤ d) : Mt mi_X_sayingOf d 0 0 [.ref 0, .ref c, .int (nI n), .int (nI 6)] (I, R, L, sh, N) (fun r h2 => ∃ K, h2 = (K, R, L, sh, N) ∧ r = some (.int (tC (b + n) - tF (b + n) + nI 1)) ∧ FrX sh I K) := by
  obtain ⟨hPc, hP24, hFc, hF12, hWF, hWP⟩ := id hW
  have hm250 := hC.2.2.1.2
  have hkb := (hV (b + n) (by omega)).1
  refine Mt.of pn_X (Nat.le_of_ble_eq_true rfl) ?_
  show Run mi_X_sayingOf d 0 0 0 [(0, .ref 0), (1, .ref c), (2, .int (nI n)), (3, .int (nI 6))] [] (I, R, L, sh, N) _
  have hx5 : I (c + 2) n = tF (b + n) ∧ I (c + 3) n = tC (b + n) := by
    have h := (hC.2.2.2.2 n hn).2.2.2
    exact ⟨(h.2 hk).1, (h.2 hk).2⟩
  refine r_iload_n (pc2 := 1) d_X_sayingOf_0 rfl rfl ?_
  refine q_switch (tgt := 179) (A := (6 : Int)) d_X_sayingOf_1 rfl (nI_toInt (by omega)) (fun off t2 c1a c1b c1o c1t => ?_) (by decide) (by decide) (fun c1 => ?_)
  · have c1c : (6 : Int) = 0 ∨ (6 : Int) = 1 ∨ (6 : Int) = 2 ∨ (6 : Int) = 3 ∨ (6 : Int) = 4 ∨ (6 : Int) = 5 ∨ (6 : Int) = 6 ∨ (6 : Int) = 7 ∨ (6 : Int) = 8 := by omega
    rcases c1c with c1e | c1e | c1e | c1e | c1e | c1e | c1e | c1e | c1e
    · exfalso; omega
    · exfalso; omega
    · exfalso; omega
    · exfalso; omega
    · exfalso; omega
    · exfalso; omega
    · obtain rfl : t2 = 109 := by
        have hh : (some (108 : Int)) = some off := c1o
        cases hh; omega
      refine r_aload_n (x := some c) (pc2 := 110) d_X_sayingOf_109 rfl rfl ?_
      refine q_getR (x := some (c + 3)) (pc2 := 113) d_X_sayingOf_110 rfl k_X_173 rfl hC.1.1 hC.2.1.2.2.1 ?_
      refine r_iload_n (pc2 := 114) d_X_sayingOf_113 rfl rfl ?_
      refine q_iaload (q := n) (x := tC (b + n)) (pc2 := 115) d_X_sayingOf_114 rfl (hC.1.2.2.2.1) (nI_toInt (by omega)) (by omega) hx5.2 ?_
      refine r_aload_n (x := some c) (pc2 := 116) d_X_sayingOf_115 rfl rfl ?_
      refine q_getR (x := some (c + 2)) (pc2 := 119) d_X_sayingOf_116 rfl k_X_170 rfl hC.1.1 hC.2.1.2.1 ?_
      refine r_iload_n (pc2 := 120) d_X_sayingOf_119 rfl rfl ?_
      refine q_iaload (q := n) (x := tF (b + n)) (pc2 := 121) d_X_sayingOf_120 rfl (hC.1.2.2.1) (nI_toInt (by omega)) (by omega) hx5.1 ?_
      refine r_isub (pc2 := 122) d_X_sayingOf_121 rfl ?_
      refine r_iconst (v := nI 1) (pc2 := 123) d_X_sayingOf_122 rfl (by decide) ?_
      refine r_iadd (pc2 := 124) d_X_sayingOf_123 rfl ?_
      refine Run.ret (some (.int (((tC (b + n)) - (tF (b + n))) + (nI 1)))) d_X_sayingOf_124 ⟨_, rfl⟩ ?_
      exact ⟨_, rfl, rfl, FrX.rf⟩
    · exfalso; omega
    · exfalso; omega
  · exfalso; omega
theorem c_X_sayingOf_7 {d : Nat} {I : Nat → Nat → Int32} {R : Nat → Nat → Option Nat} {L : Nat → Nat → Int64} {sh : Nat → Nat × Nat} {N : Nat} (hS : ShOK sh) (hR : RfOK R) {tK tF tC tS : Nat → Int32} {nt : Nat} (hV : TV tK tF tC nt) (hV2 : TV2 tK tF tC tS nt) (hnt6 : nt ≤ 1000000) {G : Nat → Int32} {nP nF nS : Nat} (hW : WFA G nP nF nt) (hWT : WFT G nF nS) (hKW : WFK G nP nF) {rk : Nat → Nat} (hrk : RK G nF rk) (hD : DR tK tF tC tS I R sh nt 0 G nP nF nS) {c m b : Nat} (hC : CO tK tF tC tS I R sh c m b) (hbn : b + m ≤ nt) {n : Nat} (hn : n < m) (hk : (tK (b + n)).toInt = 7) {xN : Nat} (hx : xN < n) (ex : I (c + 2) n = nI xN) {yN : Nat} (hy : yN < n) (ey : I (c + 3) n = nI yN) (hd : 12 ≤ d) : Mt mi_X_sayingOf d 0 0 [.ref 0, .ref c, .int (nI n), .int (nI 7)] (I, R, L, sh, N) (fun r h2 => ∃ K, h2 = (K, R, L, sh, N) ∧ r = some (.int (nI (cnt (fun p => trP (TRK tK tF tC tS) G (b + xN) p ^^ trP (TRK tK tF tC tS) G (b + yN) p) nP))) ∧ FrX sh I K) := by
  obtain ⟨hPc, hP24, hFc, hF12, hWF, hWP⟩ := id hW
  have hm250 := hC.2.2.1.2
  have hkb := (hV (b + n) (by omega)).1
  refine Mt.of pn_X (Nat.le_of_ble_eq_true rfl) ?_
  show Run mi_X_sayingOf d 0 0 0 [(0, .ref 0), (1, .ref c), (2, .int (nI n)), (3, .int (nI 7))] [] (I, R, L, sh, N) _
  refine r_iload_n (pc2 := 1) d_X_sayingOf_0 rfl rfl ?_
  refine q_switch (tgt := 179) (A := (7 : Int)) d_X_sayingOf_1 rfl (nI_toInt (by omega)) (fun off t2 c1a c1b c1o c1t => ?_) (by decide) (by decide) (fun c1 => ?_)
  · have c1c : (7 : Int) = 0 ∨ (7 : Int) = 1 ∨ (7 : Int) = 2 ∨ (7 : Int) = 3 ∨ (7 : Int) = 4 ∨ (7 : Int) = 5 ∨ (7 : Int) = 6 ∨ (7 : Int) = 7 ∨ (7 : Int) = 8 := by omega
    rcases c1c with c1e | c1e | c1e | c1e | c1e | c1e | c1e | c1e | c1e
    · exfalso; omega
    · exfalso; omega
    · exfalso; omega
    · exfalso; omega
    · exfalso; omega
    · exfalso; omega
    · exfalso; omega
    · obtain rfl : t2 = 125 := by
        have hh : (some (124 : Int)) = some off := c1o
        cases hh; omega
      refine r_aload_n (x := some 0) (pc2 := 126) d_X_sayingOf_125 rfl rfl ?_
      refine r_aload_n (x := some c) (pc2 := 127) d_X_sayingOf_126 rfl rfl ?_
      refine r_aload_n (x := some c) (pc2 := 128) d_X_sayingOf_127 rfl rfl ?_
      refine r_iload_n (pc2 := 129) d_X_sayingOf_128 rfl rfl ?_
      refine r_iconst (v := nI 1) (pc2 := 130) d_X_sayingOf_129 rfl (by decide) ?_
      refine q_callv (M2 := mi_Co_partOf) (pc2 := 133) d_X_sayingOf_130 rfl k_X_140 cm_Co_partOf cv_Co_partOf hC.1.1 (by decide) rfl rfl rfl (Nat.le_of_ble_eq_true rfl) (c_Co_partOf (I := I) hV hC hbn (n := n) (by omega) (q := nI 1) (d := d - 1) (by omega)) (d2 := d - 1) (by omega) (Nat.le_of_eq (Nat.zero_add _)) (Nat.le_of_eq (Nat.zero_add _)) ?_
      refine q_top (y := nI xN) ((pt_1 (by decide) (by omega)).trans ex) ?_
      refine r_callv (M2 := mi_X_personsOf) (pc2 := 136) d_X_sayingOf_133 rfl k_X_161 cm_X_personsOf cv_X_personsOf (sh_0 hS) (by decide) rfl rfl rfl (Nat.le_of_ble_eq_true rfl) (c_X_personsOf (I := I) hS hR hV hV2 hnt6 hW hWT hKW hrk hD hC hbn (n := xN) (by omega) (d := d - 1) (by omega)) (d2 := d - 1) (by omega) (Nat.le_of_eq (Nat.zero_add _)) (Nat.le_of_eq (Nat.zero_add _)) (fun r2 h2 hq2 => ?_)
      obtain ⟨K2, rfl, rfl, hK2⟩ := hq2
      change Run _ _ _ _ _ _ [.int (bits (trP (TRK tK tF tC tS) G (b + xN)) nP)] _ _
      refine r_aload_n (x := some 0) (pc2 := 137) d_X_sayingOf_136 rfl rfl ?_
      refine r_aload_n (x := some c) (pc2 := 138) d_X_sayingOf_137 rfl rfl ?_
      refine r_aload_n (x := some c) (pc2 := 139) d_X_sayingOf_138 rfl rfl ?_
      refine r_iload_n (pc2 := 140) d_X_sayingOf_139 rfl rfl ?_
      refine r_iconst (v := nI 2) (pc2 := 141) d_X_sayingOf_140 rfl (by decide) ?_
      refine q_callv (M2 := mi_Co_partOf) (pc2 := 144) d_X_sayingOf_141 rfl k_X_140 cm_Co_partOf cv_Co_partOf hC.1.1 (by decide) rfl rfl rfl (Nat.le_of_ble_eq_true rfl) (c_Co_partOf (I := K2) hV (CO.ne hC (show (sh (c + 5)).1 = 14 by rw [hC.1.2.2.2.2.2]) hK2) hbn (n := n) (by omega) (q := nI 2) (d := d - 1) (by omega)) (d2 := d - 1) (by omega) (Nat.le_of_eq (Nat.zero_add _)) (Nat.le_of_eq (Nat.zero_add _)) ?_
      refine q_top (y := nI yN) ((pt_2 (by decide) (by omega)).trans ((congrFun (hK2 (c + 3) (by omega)) _).trans ey)) ?_
      have ddK3 := DR.x hS hW (by decide) hD (frT hS (show (sh (c + 5)).1 = 14 by rw [hC.1.2.2.2.2.2]) hK2) FrXR.rf
      have ccK3 := CO.ne hC (show (sh (c + 5)).1 = 14 by rw [hC.1.2.2.2.2.2]) hK2
      refine r_callv (M2 := mi_X_personsOf) (pc2 := 147) d_X_sayingOf_144 rfl k_X_161 cm_X_personsOf cv_X_personsOf (sh_0 hS) (by decide) rfl rfl rfl (Nat.le_of_ble_eq_true rfl) (c_X_personsOf (I := K2) hS hR hV hV2 hnt6 hW hWT hKW hrk ddK3 ccK3 hbn (n := yN) (by omega) (d := d - 1) (by omega)) (d2 := d - 1) (by omega) (Nat.le_of_eq (Nat.zero_add _)) (Nat.le_of_eq (Nat.zero_add _)) (fun r2 h2 hq2 => ?_)
      obtain ⟨K3, rfl, rfl, hK3⟩ := hq2
      change Run _ _ _ _ _ _ [.int (bits (trP (TRK tK tF tC tS) G (b + yN)) nP), .int (bits (trP (TRK tK tF tC tS) G (b + xN)) nP)] _ _
      refine r_ixor (pc2 := 148) d_X_sayingOf_147 rfl ?_
      refine q_top (y := bits (fun p => trP (TRK tK tF tC tS) G (b + xN) p ^^ trP (TRK tK tF tC tS) G (b + yN) p) nP) (bits_xor (by omega)) ?_
      refine q_calls (M2 := mi_JI_bitCount) (pc2 := 151) d_X_sayingOf_148 rfl k_X_165 cm_JI_bitCount cs_JI_bitCount rfl rfl (Nat.le_of_ble_eq_true rfl) (c_JI_bitCount (x := bits (fun p => trP (TRK tK tF tC tS) G (b + xN) p ^^ trP (TRK tK tF tC tS) G (b + yN) p) nP)) (d2 := d - 1) (by omega) (Nat.le_of_eq (Nat.zero_add _)) (Nat.le_of_eq (Nat.zero_add _)) ?_
      refine q_top (y := nI (cnt (fun p => trP (TRK tK tF tC tS) G (b + xN) p ^^ trP (TRK tK tF tC tS) G (b + yN) p) nP)) (by rw [cnt_bits (by omega)]) ?_
      refine Run.ret (some (.int (nI (cnt (fun p => trP (TRK tK tF tC tS) G (b + xN) p ^^ trP (TRK tK tF tC tS) G (b + yN) p) nP)))) d_X_sayingOf_151 ⟨_, rfl⟩ ?_
      exact ⟨_, rfl, rfl, (frT hS (show (sh (c + 5)).1 = 14 by rw [hC.1.2.2.2.2.2]) (fun a ha => (hK3 a ha).trans (hK2 a ha)))⟩
    · exfalso; omega
  · exfalso; omega
theorem c_X_sayingOf_8 {d : Nat} {I : Nat → Nat → Int32} {R : Nat → Nat → Option Nat} {L : Nat → Nat → Int64} {sh : Nat → Nat × Nat} {N : Nat} (hS : ShOK sh) (hR : RfOK R) {tK tF tC tS : Nat → Int32} {nt : Nat} (hV : TV tK tF tC nt) (hV2 : TV2 tK tF tC tS nt) (hnt6 : nt ≤ 1000000) {G : Nat → Int32} {nP nF nS : Nat} (hW : WFA G nP nF nt) (hWT : WFT G nF nS) (hKW : WFK G nP nF) {rk : Nat → Nat} (hrk : RK G nF rk) (hD : DR tK tF tC tS I R sh nt 0 G nP nF nS) {c m b : Nat} (hC : CO tK tF tC tS I R sh c m b) (hbn : b + m ≤ nt) {n : Nat} (hn : n < m) (hk : (tK (b + n)).toInt = 8) {xN : Nat} (hx : xN < n) (ex : I (c + 2) n = nI xN) {yN : Nat} (hy : yN < n) (ey : I (c + 3) n = nI yN) (hd : 12 ≤ d) : Mt mi_X_sayingOf d 0 0 [.ref 0, .ref c, .int (nI n), .int (nI 8)] (I, R, L, sh, N) (fun r h2 => ∃ K, h2 = (K, R, L, sh, N) ∧ r = some (.int (nI (cnt (fun p => trP (TRK tK tF tC tS) G (b + xN) p && trP (TRK tK tF tC tS) G (b + yN) p) nP))) ∧ FrX sh I K) := by
  obtain ⟨hPc, hP24, hFc, hF12, hWF, hWP⟩ := id hW
  have hm250 := hC.2.2.1.2
  have hkb := (hV (b + n) (by omega)).1
  refine Mt.of pn_X (Nat.le_of_ble_eq_true rfl) ?_
  show Run mi_X_sayingOf d 0 0 0 [(0, .ref 0), (1, .ref c), (2, .int (nI n)), (3, .int (nI 8))] [] (I, R, L, sh, N) _
  refine r_iload_n (pc2 := 1) d_X_sayingOf_0 rfl rfl ?_
  refine q_switch (tgt := 179) (A := (8 : Int)) d_X_sayingOf_1 rfl (nI_toInt (by omega)) (fun off t2 c1a c1b c1o c1t => ?_) (by decide) (by decide) (fun c1 => ?_)
  · have c1c : (8 : Int) = 0 ∨ (8 : Int) = 1 ∨ (8 : Int) = 2 ∨ (8 : Int) = 3 ∨ (8 : Int) = 4 ∨ (8 : Int) = 5 ∨ (8 : Int) = 6 ∨ (8 : Int) = 7 ∨ (8 : Int) = 8 := by omega
    rcases c1c with c1e | c1e | c1e | c1e | c1e | c1e | c1e | c1e | c1e
    · exfalso; omega
    · exfalso; omega
    · exfalso; omega
    · exfalso; omega
    · exfalso; omega
    · exfalso; omega
    · exfalso; omega
    · exfalso; omega
    · obtain rfl : t2 = 152 := by
        have hh : (some (151 : Int)) = some off := c1o
        cases hh; omega
      refine r_aload_n (x := some 0) (pc2 := 153) d_X_sayingOf_152 rfl rfl ?_
      refine r_aload_n (x := some c) (pc2 := 154) d_X_sayingOf_153 rfl rfl ?_
      refine r_aload_n (x := some c) (pc2 := 155) d_X_sayingOf_154 rfl rfl ?_
      refine r_iload_n (pc2 := 156) d_X_sayingOf_155 rfl rfl ?_
      refine r_iconst (v := nI 1) (pc2 := 157) d_X_sayingOf_156 rfl (by decide) ?_
      refine q_callv (M2 := mi_Co_partOf) (pc2 := 160) d_X_sayingOf_157 rfl k_X_140 cm_Co_partOf cv_Co_partOf hC.1.1 (by decide) rfl rfl rfl (Nat.le_of_ble_eq_true rfl) (c_Co_partOf (I := I) hV hC hbn (n := n) (by omega) (q := nI 1) (d := d - 1) (by omega)) (d2 := d - 1) (by omega) (Nat.le_of_eq (Nat.zero_add _)) (Nat.le_of_eq (Nat.zero_add _)) ?_
      refine q_top (y := nI xN) ((pt_1 (by decide) (by omega)).trans ex) ?_
      refine r_callv (M2 := mi_X_personsOf) (pc2 := 163) d_X_sayingOf_160 rfl k_X_161 cm_X_personsOf cv_X_personsOf (sh_0 hS) (by decide) rfl rfl rfl (Nat.le_of_ble_eq_true rfl) (c_X_personsOf (I := I) hS hR hV hV2 hnt6 hW hWT hKW hrk hD hC hbn (n := xN) (by omega) (d := d - 1) (by omega)) (d2 := d - 1) (by omega) (Nat.le_of_eq (Nat.zero_add _)) (Nat.le_of_eq (Nat.zero_add _)) (fun r2 h2 hq2 => ?_)
      obtain ⟨K2, rfl, rfl, hK2⟩ := hq2
      change Run _ _ _ _ _ _ [.int (bits (trP (TRK tK tF tC tS) G (b + xN)) nP)] _ _
      refine r_aload_n (x := some 0) (pc2 := 164) d_X_sayingOf_163 rfl rfl ?_
      refine r_aload_n (x := some c) (pc2 := 165) d_X_sayingOf_164 rfl rfl ?_
      refine r_aload_n (x := some c) (pc2 := 166) d_X_sayingOf_165 rfl rfl ?_
      refine r_iload_n (pc2 := 167) d_X_sayingOf_166 rfl rfl ?_
      refine r_iconst (v := nI 2) (pc2 := 168) d_X_sayingOf_167 rfl (by decide) ?_
      refine q_callv (M2 := mi_Co_partOf) (pc2 := 171) d_X_sayingOf_168 rfl k_X_140 cm_Co_partOf cv_Co_partOf hC.1.1 (by decide) rfl rfl rfl (Nat.le_of_ble_eq_true rfl) (c_Co_partOf (I := K2) hV (CO.ne hC (show (sh (c + 5)).1 = 14 by rw [hC.1.2.2.2.2.2]) hK2) hbn (n := n) (by omega) (q := nI 2) (d := d - 1) (by omega)) (d2 := d - 1) (by omega) (Nat.le_of_eq (Nat.zero_add _)) (Nat.le_of_eq (Nat.zero_add _)) ?_
      refine q_top (y := nI yN) ((pt_2 (by decide) (by omega)).trans ((congrFun (hK2 (c + 3) (by omega)) _).trans ey)) ?_
      have ddK3 := DR.x hS hW (by decide) hD (frT hS (show (sh (c + 5)).1 = 14 by rw [hC.1.2.2.2.2.2]) hK2) FrXR.rf
      have ccK3 := CO.ne hC (show (sh (c + 5)).1 = 14 by rw [hC.1.2.2.2.2.2]) hK2
      refine r_callv (M2 := mi_X_personsOf) (pc2 := 174) d_X_sayingOf_171 rfl k_X_161 cm_X_personsOf cv_X_personsOf (sh_0 hS) (by decide) rfl rfl rfl (Nat.le_of_ble_eq_true rfl) (c_X_personsOf (I := K2) hS hR hV hV2 hnt6 hW hWT hKW hrk ddK3 ccK3 hbn (n := yN) (by omega) (d := d - 1) (by omega)) (d2 := d - 1) (by omega) (Nat.le_of_eq (Nat.zero_add _)) (Nat.le_of_eq (Nat.zero_add _)) (fun r2 h2 hq2 => ?_)
      obtain ⟨K3, rfl, rfl, hK3⟩ := hq2
      change Run _ _ _ _ _ _ [.int (bits (trP (TRK tK tF tC tS) G (b + yN)) nP), .int (bits (trP (TRK tK tF tC tS) G (b + xN)) nP)] _ _
      refine r_iand (pc2 := 175) d_X_sayingOf_174 rfl ?_
      refine q_top (y := bits (fun p => trP (TRK tK tF tC tS) G (b + xN) p && trP (TRK tK tF tC tS) G (b + yN) p) nP) (bits_and (by omega)) ?_
      refine q_calls (M2 := mi_JI_bitCount) (pc2 := 178) d_X_sayingOf_175 rfl k_X_165 cm_JI_bitCount cs_JI_bitCount rfl rfl (Nat.le_of_ble_eq_true rfl) (c_JI_bitCount (x := bits (fun p => trP (TRK tK tF tC tS) G (b + xN) p && trP (TRK tK tF tC tS) G (b + yN) p) nP)) (d2 := d - 1) (by omega) (Nat.le_of_eq (Nat.zero_add _)) (Nat.le_of_eq (Nat.zero_add _)) ?_
      refine q_top (y := nI (cnt (fun p => trP (TRK tK tF tC tS) G (b + xN) p && trP (TRK tK tF tC tS) G (b + yN) p) nP)) (by rw [cnt_bits (by omega)]) ?_
      refine Run.ret (some (.int (nI (cnt (fun p => trP (TRK tK tF tC tS) G (b + xN) p && trP (TRK tK tF tC tS) G (b + yN) p) nP)))) d_X_sayingOf_178 ⟨_, rfl⟩ ?_
      exact ⟨_, rfl, rfl, (frT hS (show (sh (c + 5)).1 = 14 by rw [hC.1.2.2.2.2.2]) (fun a ha => (hK3 a ha).trans (hK2 a ha)))⟩
  · exfalso; omega
