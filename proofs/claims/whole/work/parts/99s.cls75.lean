/-! THE SPELLER: measure -/
section
variable {ns : List Nd} {t : Nat}
theorem ln_3 (hv : NV ns) (ht : t < ns.length) (h : (nd ns t).1 = 3) : ln ns t = 1 + (ln ns (nd ns t).2.1 + plus2 (b1 ns t)) := by
  rw [ln_eq hv ht, if_pos h, br0_k]; unfold plus2 b1; rw [if_pos h]; omega
theorem ln_4 (hv : NV ns) (ht : t < ns.length) (h : (nd ns t).1 = 4) : ln ns t = 1 := by rw [ln_eq hv ht, if_neg (by omega), if_pos h]
theorem ln_5 (hv : NV ns) (ht : t < ns.length) (h : (nd ns t).1 = 5) : ln ns t = 3 := by rw [ln_eq hv ht, if_neg (by omega), if_neg (by omega), if_pos h]
theorem ln_6 (hv : NV ns) (ht : t < ns.length) (h : (nd ns t).1 = 6) : ln ns t = 2 + dgN (nd ns t).2.1 + dgN (nd ns t).2.2.1 := by rw [ln_eq hv ht, if_neg (by omega), if_neg (by omega), if_neg (by omega), if_pos h]
theorem ln_7 (hv : NV ns) (ht : t < ns.length) (h : 7 ≤ (nd ns t).1) : ln ns t = 1 + (ln ns (nd ns t).2.1 + plus2 (b1 ns t)) + (ln ns (nd ns t).2.2.1 + plus2 (b2 ns t)) := by
  have := (hv.nd ht).1
  rw [ln_eq hv ht, if_neg (by omega), if_neg (by omega), if_neg (by omega), if_neg (by omega)]
  unfold plus2 b1 b2
  by_cases h7 : (nd ns t).1 = 7
  · have e3 : ¬ (nd ns t).1 = 3 := by omega
    simp only [if_pos h7, if_neg e3, br0_k, br1_k]
  · have e3 : ¬ (nd ns t).1 = 3 := by omega
    simp only [if_neg h7, if_neg e3, br1_k, if_neg Bool.false_ne_true, Nat.add_zero]
theorem tx_3 (hv : NV ns) (ht : t < ns.length) (h : (nd ns t).1 = 3) : tx ns t = nI 33 :: bk (b1 ns t) (tx ns (nd ns t).2.1) := by
  rw [tx_eq hv ht, if_pos h]; unfold b1; rw [if_pos h]
theorem tx_7 (hv : NV ns) (ht : t < ns.length) (h : 7 ≤ (nd ns t).1) : tx ns t = bk (b1 ns t) (tx ns (nd ns t).2.1) ++ nI (if (nd ns t).1 = 7 then 38 else 124) :: bk (b2 ns t) (tx ns (nd ns t).2.2.1) := by
  have := (hv.nd ht).1
  rw [tx_eq hv ht, if_neg (by omega), if_neg (by omega), if_neg (by omega), if_neg (by omega)]
  unfold b1 b2
  by_cases h7 : (nd ns t).1 = 7
  · have e3 : ¬ (nd ns t).1 = 3 := by omega
    simp only [if_pos h7, if_neg e3]
  · have e3 : ¬ (nd ns t).1 = 3 := by omega
    simp only [if_neg h7, if_neg e3]
    rfl
end
theorem k_Co_root {d : Nat} {J : Nat → Nat → Int32} {R : Nat → Nat → Option Nat} {L : Nat → Nat → Int64} {sh : Nat → Nat × Nat} {N : Nat} (hS : ShOK sh) (hR : RfOK R) {c : Nat} {ns : List Nd} (hC : CoK c ns J R sh) (hl : ns.length < 250) (h0 : 0 < ns.length) : Me mi_Co_root d 0 0 [.ref c] (J, R, L, sh, N) (some (.int (nI (ns.length - 1)))) (J, R, L, sh, N) := by
  refine Mt.of pn_Co (Nat.le_of_ble_eq_true rfl) ?_
  show Run mi_Co_root d 0 0 0 [(0, .ref c)] [] (J, R, L, sh, N) _
  refine r_aload_n (x := some c) (pc2 := 1) d_Co_root_0 rfl rfl ?_
  refine q_getR (x := some (c + 1)) (pc2 := 4) d_Co_root_1 rfl k_Co_15 rfl hC.1.1 hC.2.1.1 ?_
  refine r_alen (pc2 := 5) d_Co_root_4 rfl hC.1.2.1 (by decide) (by decide) ?_
  refine r_iconst (v := nI 1) (pc2 := 6) d_Co_root_5 rfl (by decide) ?_
  refine q_isubN (pc2 := 7) d_Co_root_6 rfl (by omega) ?_
  refine Run.ret (some (.int (nI (ns.length - 1)))) d_Co_root_7 ⟨_, rfl⟩ ?_
  exact ⟨rfl, rfl⟩
theorem l_Sp_measure {d : Nat} {J : Nat → Nat → Int32} {R : Nat → Nat → Option Nat} {L : Nat → Nat → Int64} {sh : Nat → Nat × Nat} {N : Nat} (hS : ShOK sh) (hR : RfOK R) {c : Nat} {ns : List Nd} (hC0 : CoK c ns J R sh) (hv : NV ns) (hl : ns.length < 250) (h0 : 0 < ns.length) (hc : 781 ≤ c) {Q : Option Value → HS → Prop} (hq : ∀ K, (∀ j, j < ns.length → K 741 j = nI (ln ns j)) → (∀ a j, a ≠ 741 → K a j = J a j) → Q none (K, R, L, sh, N)) (hd : 5 ≤ d) : ∀ (n_ : Nat) (i : Nat) (J1 : Nat → Nat → Int32), ns.length - i = n_ → (∀ j, j < i → J1 741 j = nI (ln ns j)) → (∀ a j, a ≠ 741 → J1 a j = J a j) → (i ≤ ns.length) → Run mi_Sp_measure d 0 0 2 [(0, .ref 740), (1, .ref c), (2, .int (nI i))] [] (J1, R, L, sh, N) Q := by
  intro n_
  induction n_ using Nat.strongRecOn with | ind n_ ih_ => ?_
  intro i J1 hn_ v0_ v1_ v2_
  have hC : CoK c ns J1 R sh := hC0.c hc (fun a j q => v1_ a j (by omega))
  refine r_iload_n (pc2 := 3) d_Sp_measure_2 rfl rfl ?_
  refine r_aload_n (x := some c) (pc2 := 4) d_Sp_measure_3 rfl rfl ?_
  refine q_callv (M2 := mi_Co_root) (pc2 := 7) d_Sp_measure_4 rfl k_Sp_31 cm_Co_root cv_Co_root hC.1.1 (by decide) rfl rfl rfl (Nat.le_of_ble_eq_true rfl) (k_Co_root (J := J1) hS hR hC hl h0) (d2 := d - 1) (by omega) (Nat.le_of_eq (Nat.zero_add _)) (Nat.le_of_eq (Nat.zero_add _)) ?_
  refine q_icmp_gt (tgt := 149) (A := ((i : Nat) : Int)) (B := ((ns.length - 1 : Nat) : Int)) (pc2 := 10) d_Sp_measure_7 rfl rfl (nI_toInt (by omega)) (nI_toInt (by omega)) (fun c1 => ?_) (fun c1 => ?_)
  · refine Run.ret none d_Sp_measure_149 rfl ?_
    rw [show i = ns.length by omega] at v0_
    exact hq J1 v0_ v1_
  · obtain ⟨hw1, hw2, hw3, -, hw5⟩ := hv.nd (show i < ns.length by omega)
    refine r_aload_n (x := some c) (pc2 := 11) d_Sp_measure_10 rfl rfl ?_
    refine r_iload_n (pc2 := 12) d_Sp_measure_11 rfl rfl ?_
    refine q_callv (M2 := mi_Co_kindOf) (pc2 := 15) d_Sp_measure_12 rfl k_Sp_49 cm_Co_kindOf cv_Co_kindOf hC.1.1 (by decide) rfl rfl rfl (Nat.le_of_ble_eq_true rfl) (k_Co_kindOf (J := J1) hS hR (n := i) hC hv hl (by omega)) (d2 := d - 1) (by omega) (Nat.le_of_eq (Nat.zero_add _)) (Nat.le_of_eq (Nat.zero_add _)) ?_
    refine q_switch (tgt := 136) (A := (((nd ns i).1 : Nat) : Int)) d_Sp_measure_15 rfl (nI_toInt (by omega)) (fun off t2 c2a c2b c2o c2t => ?_) (by decide) (by decide) (fun c2 => ?_)
    · have c2c : (((nd ns i).1 : Nat) : Int) = 3 ∨ (((nd ns i).1 : Nat) : Int) = 4 ∨ (((nd ns i).1 : Nat) : Int) = 5 ∨ (((nd ns i).1 : Nat) : Int) = 6 ∨ (((nd ns i).1 : Nat) : Int) = 7 ∨ (((nd ns i).1 : Nat) : Int) = 8 := by omega
      rcases c2c with c2e | c2e | c2e | c2e | c2e | c2e
      · obtain rfl : t2 = 52 := by
          have hh : (some (37 : Int)) = some off := by rw [c2e] at c2o; exact c2o
          cases hh; omega
        refine r_aload_n (x := some 740) (pc2 := 53) d_Sp_measure_52 rfl rfl ?_
        refine q_getR (x := some 741) (pc2 := 56) d_Sp_measure_53 rfl k_Sp_9 rfl (sh_740 hS) (rf_740_0 hR) ?_
        refine r_iload_n (pc2 := 57) d_Sp_measure_56 rfl rfl ?_
        refine r_iconst (v := nI 1) (pc2 := 58) d_Sp_measure_57 rfl (by decide) ?_
        refine r_aload_n (x := some 740) (pc2 := 59) d_Sp_measure_58 rfl rfl ?_
        refine r_aload_n (x := some c) (pc2 := 60) d_Sp_measure_59 rfl rfl ?_
        refine r_iload_n (pc2 := 61) d_Sp_measure_60 rfl rfl ?_
        refine r_iconst (v := nI 1) (pc2 := 62) d_Sp_measure_61 rfl (by decide) ?_
        refine q_callv (M2 := mi_Sp_partLength) (pc2 := 65) d_Sp_measure_62 rfl k_Sp_53 cm_Sp_partLength cv_Sp_partLength (sh_740 hS) (by decide) rfl rfl rfl (Nat.le_of_ble_eq_true rfl) (k_Sp_partLength_1 (J := J1) hS hR (n := i) hC hv hl (by omega) (by omega) (v0_ _ (by omega)) (by omega)) (d2 := d - 1) (by omega) (Nat.le_of_eq (Nat.zero_add _)) (Nat.le_of_eq (Nat.zero_add _)) ?_
        refine q_iaddN (pc2 := 66) d_Sp_measure_65 rfl ?_
        refine q_iastore (q := i) (pc2 := 67) d_Sp_measure_66 rfl (sh_741 hS) (nI_toInt (by omega)) (by omega) (fun I3 hI3 => ?_)
        refine r_goto (tgt := 143) d_Sp_measure_67 rfl ?_
        refine q_iinc (b := 1) (pc2 := 146) d_Sp_measure_143 rfl rfl (by decide) (Nat.le_of_ble_eq_true rfl) ?_
        refine r_goto (tgt := 2) d_Sp_measure_146 rfl ?_
        have eln : ln ns i = 1 + (ln ns (nd ns i).2.1 + plus2 (b1 ns i)) := by first | exact (ln_3 hv (by omega) (by omega)) | exact (ln_5 hv (by omega) (by omega)) | exact (ln_6 hv (by omega) (by omega)) | exact (ln_7 hv (by omega) (by omega)) | exact (ln_4 hv (by omega) (by omega))
        refine Run.sub (l2 := [(0, .ref 740), (1, .ref c), (2, .int (nI (i + 1)))]) ⟨rfl, rfl, rfl, trivial⟩ ?_
        exact ih_ (ns.length - (i + 1)) (by omega) (i + 1) I3 rfl (fun j hj => by
          by_cases q : j = i
          · subst q; rw [eln]; exact rd_eq hI3
          · exact (rd_nk hI3 q).trans (v0_ j (by omega))) (fun a j q => (rd_ne hI3 q).trans (v1_ a j q)) (by omega)
      · obtain rfl : t2 = 136 := by
          have hh : (some (121 : Int)) = some off := by rw [c2e] at c2o; exact c2o
          cases hh; omega
        refine r_aload_n (x := some 740) (pc2 := 137) d_Sp_measure_136 rfl rfl ?_
        refine q_getR (x := some 741) (pc2 := 140) d_Sp_measure_137 rfl k_Sp_9 rfl (sh_740 hS) (rf_740_0 hR) ?_
        refine r_iload_n (pc2 := 141) d_Sp_measure_140 rfl rfl ?_
        refine r_iconst (v := nI 1) (pc2 := 142) d_Sp_measure_141 rfl (by decide) ?_
        refine q_iastore (q := i) (pc2 := 143) d_Sp_measure_142 rfl (sh_741 hS) (nI_toInt (by omega)) (by omega) (fun I4 hI4 => ?_)
        refine q_iinc (b := 1) (pc2 := 146) d_Sp_measure_143 rfl rfl (by decide) (Nat.le_of_ble_eq_true rfl) ?_
        refine r_goto (tgt := 2) d_Sp_measure_146 rfl ?_
        have eln : ln ns i = 1 := by first | exact (ln_3 hv (by omega) (by omega)) | exact (ln_5 hv (by omega) (by omega)) | exact (ln_6 hv (by omega) (by omega)) | exact (ln_7 hv (by omega) (by omega)) | exact (ln_4 hv (by omega) (by omega))
        refine Run.sub (l2 := [(0, .ref 740), (1, .ref c), (2, .int (nI (i + 1)))]) ⟨rfl, rfl, rfl, trivial⟩ ?_
        exact ih_ (ns.length - (i + 1)) (by omega) (i + 1) I4 rfl (fun j hj => by
          by_cases q : j = i
          · subst q; rw [eln]; exact rd_eq hI4
          · exact (rd_nk hI4 q).trans (v0_ j (by omega))) (fun a j q => (rd_ne hI4 q).trans (v1_ a j q)) (by omega)
      · obtain rfl : t2 = 70 := by
          have hh : (some (55 : Int)) = some off := by rw [c2e] at c2o; exact c2o
          cases hh; omega
        refine r_aload_n (x := some 740) (pc2 := 71) d_Sp_measure_70 rfl rfl ?_
        refine q_getR (x := some 741) (pc2 := 74) d_Sp_measure_71 rfl k_Sp_9 rfl (sh_740 hS) (rf_740_0 hR) ?_
        refine r_iload_n (pc2 := 75) d_Sp_measure_74 rfl rfl ?_
        refine r_iconst (v := nI 3) (pc2 := 76) d_Sp_measure_75 rfl (by decide) ?_
        refine q_iastore (q := i) (pc2 := 77) d_Sp_measure_76 rfl (sh_741 hS) (nI_toInt (by omega)) (by omega) (fun I5 hI5 => ?_)
        refine r_goto (tgt := 143) d_Sp_measure_77 rfl ?_
        refine q_iinc (b := 1) (pc2 := 146) d_Sp_measure_143 rfl rfl (by decide) (Nat.le_of_ble_eq_true rfl) ?_
        refine r_goto (tgt := 2) d_Sp_measure_146 rfl ?_
        have eln : ln ns i = 3 := by first | exact (ln_3 hv (by omega) (by omega)) | exact (ln_5 hv (by omega) (by omega)) | exact (ln_6 hv (by omega) (by omega)) | exact (ln_7 hv (by omega) (by omega)) | exact (ln_4 hv (by omega) (by omega))
        refine Run.sub (l2 := [(0, .ref 740), (1, .ref c), (2, .int (nI (i + 1)))]) ⟨rfl, rfl, rfl, trivial⟩ ?_
        exact ih_ (ns.length - (i + 1)) (by omega) (i + 1) I5 rfl (fun j hj => by
          by_cases q : j = i
          · subst q; rw [eln]; exact rd_eq hI5
          · exact (rd_nk hI5 q).trans (v0_ j (by omega))) (fun a j q => (rd_ne hI5 q).trans (v1_ a j q)) (by omega)
      · obtain rfl : t2 = 80 := by
          have hh : (some (65 : Int)) = some off := by rw [c2e] at c2o; exact c2o
          cases hh; omega
        refine r_aload_n (x := some 740) (pc2 := 81) d_Sp_measure_80 rfl rfl ?_
        refine q_getR (x := some 741) (pc2 := 84) d_Sp_measure_81 rfl k_Sp_9 rfl (sh_740 hS) (rf_740_0 hR) ?_
        refine r_iload_n (pc2 := 85) d_Sp_measure_84 rfl rfl ?_
        refine r_iconst (v := nI 2) (pc2 := 86) d_Sp_measure_85 rfl (by decide) ?_
        refine r_aload_n (x := some c) (pc2 := 87) d_Sp_measure_86 rfl rfl ?_
        refine q_getR (x := some (c + 2)) (pc2 := 90) d_Sp_measure_87 rfl k_Sp_57 rfl hC.1.1 hC.2.1.2.1 ?_
        refine r_iload_n (pc2 := 91) d_Sp_measure_90 rfl rfl ?_
        refine q_iaload (q := i) (x := nI ((nd ns i).2.1)) (pc2 := 92) d_Sp_measure_91 rfl hC.1.2.2.1 (nI_toInt (by omega)) (by omega) ((hC.2.2 i (by omega)).2.1) ?_
        refine q_calls (M2 := mi_Sp_digitsOf) (pc2 := 95) d_Sp_measure_92 rfl k_Sp_60 cm_Sp_digitsOf cs_Sp_digitsOf rfl rfl (Nat.le_of_ble_eq_true rfl) (c_Sp_digitsOf (v := (nd ns i).2.1) (by omega)) (d2 := d - 1) (by omega) (Nat.le_of_eq (Nat.zero_add _)) (Nat.le_of_eq (Nat.zero_add _)) ?_
        refine q_iaddN (pc2 := 96) d_Sp_measure_95 rfl ?_
        refine r_aload_n (x := some c) (pc2 := 97) d_Sp_measure_96 rfl rfl ?_
        refine q_getR (x := some (c + 3)) (pc2 := 100) d_Sp_measure_97 rfl k_Sp_63 rfl hC.1.1 hC.2.1.2.2.1 ?_
        refine r_iload_n (pc2 := 101) d_Sp_measure_100 rfl rfl ?_
        refine q_iaload (q := i) (x := nI ((nd ns i).2.2.1)) (pc2 := 102) d_Sp_measure_101 rfl hC.1.2.2.2.1 (nI_toInt (by omega)) (by omega) ((hC.2.2 i (by omega)).2.2.1 (by omega)) ?_
        refine q_calls (M2 := mi_Sp_digitsOf) (pc2 := 105) d_Sp_measure_102 rfl k_Sp_60 cm_Sp_digitsOf cs_Sp_digitsOf rfl rfl (Nat.le_of_ble_eq_true rfl) (c_Sp_digitsOf (v := (nd ns i).2.2.1) (by omega)) (d2 := d - 1) (by omega) (Nat.le_of_eq (Nat.zero_add _)) (Nat.le_of_eq (Nat.zero_add _)) ?_
        refine q_iaddN (pc2 := 106) d_Sp_measure_105 rfl ?_
        refine q_iastore (q := i) (pc2 := 107) d_Sp_measure_106 rfl (sh_741 hS) (nI_toInt (by omega)) (by omega) (fun I6 hI6 => ?_)
        refine r_goto (tgt := 143) d_Sp_measure_107 rfl ?_
        refine q_iinc (b := 1) (pc2 := 146) d_Sp_measure_143 rfl rfl (by decide) (Nat.le_of_ble_eq_true rfl) ?_
        refine r_goto (tgt := 2) d_Sp_measure_146 rfl ?_
        have eln : ln ns i = 2 + (dgN ((nd ns i).2.1)) + (dgN ((nd ns i).2.2.1)) := by first | exact (ln_3 hv (by omega) (by omega)) | exact (ln_5 hv (by omega) (by omega)) | exact (ln_6 hv (by omega) (by omega)) | exact (ln_7 hv (by omega) (by omega)) | exact (ln_4 hv (by omega) (by omega))
        refine Run.sub (l2 := [(0, .ref 740), (1, .ref c), (2, .int (nI (i + 1)))]) ⟨rfl, rfl, rfl, trivial⟩ ?_
        exact ih_ (ns.length - (i + 1)) (by omega) (i + 1) I6 rfl (fun j hj => by
          by_cases q : j = i
          · subst q; rw [eln]; exact rd_eq hI6
          · exact (rd_nk hI6 q).trans (v0_ j (by omega))) (fun a j q => (rd_ne hI6 q).trans (v1_ a j q)) (by omega)
      · obtain rfl : t2 = 110 := by
          have hh : (some (95 : Int)) = some off := by rw [c2e] at c2o; exact c2o
          cases hh; omega
        refine r_aload_n (x := some 740) (pc2 := 111) d_Sp_measure_110 rfl rfl ?_
        refine q_getR (x := some 741) (pc2 := 114) d_Sp_measure_111 rfl k_Sp_9 rfl (sh_740 hS) (rf_740_0 hR) ?_
        refine r_iload_n (pc2 := 115) d_Sp_measure_114 rfl rfl ?_
        refine r_iconst (v := nI 1) (pc2 := 116) d_Sp_measure_115 rfl (by decide) ?_
        refine r_aload_n (x := some 740) (pc2 := 117) d_Sp_measure_116 rfl rfl ?_
        refine r_aload_n (x := some c) (pc2 := 118) d_Sp_measure_117 rfl rfl ?_
        refine r_iload_n (pc2 := 119) d_Sp_measure_118 rfl rfl ?_
        refine r_iconst (v := nI 1) (pc2 := 120) d_Sp_measure_119 rfl (by decide) ?_
        refine q_callv (M2 := mi_Sp_partLength) (pc2 := 123) d_Sp_measure_120 rfl k_Sp_53 cm_Sp_partLength cv_Sp_partLength (sh_740 hS) (by decide) rfl rfl rfl (Nat.le_of_ble_eq_true rfl) (k_Sp_partLength_1 (J := J1) hS hR (n := i) hC hv hl (by omega) (by omega) (v0_ _ (by omega)) (by omega)) (d2 := d - 1) (by omega) (Nat.le_of_eq (Nat.zero_add _)) (Nat.le_of_eq (Nat.zero_add _)) ?_
        refine q_iaddN (pc2 := 124) d_Sp_measure_123 rfl ?_
        refine r_aload_n (x := some 740) (pc2 := 125) d_Sp_measure_124 rfl rfl ?_
        refine r_aload_n (x := some c) (pc2 := 126) d_Sp_measure_125 rfl rfl ?_
        refine r_iload_n (pc2 := 127) d_Sp_measure_126 rfl rfl ?_
        refine r_iconst (v := nI 2) (pc2 := 128) d_Sp_measure_127 rfl (by decide) ?_
        refine q_callv (M2 := mi_Sp_partLength) (pc2 := 131) d_Sp_measure_128 rfl k_Sp_53 cm_Sp_partLength cv_Sp_partLength (sh_740 hS) (by decide) rfl rfl rfl (Nat.le_of_ble_eq_true rfl) (k_Sp_partLength_2 (J := J1) hS hR (n := i) hC hv hl (by omega) (by omega) (v0_ _ (by omega)) (by omega)) (d2 := d - 1) (by omega) (Nat.le_of_eq (Nat.zero_add _)) (Nat.le_of_eq (Nat.zero_add _)) ?_
        refine q_iaddN (pc2 := 132) d_Sp_measure_131 rfl ?_
        refine q_iastore (q := i) (pc2 := 133) d_Sp_measure_132 rfl (sh_741 hS) (nI_toInt (by omega)) (by omega) (fun I7 hI7 => ?_)
        refine r_goto (tgt := 143) d_Sp_measure_133 rfl ?_
        refine q_iinc (b := 1) (pc2 := 146) d_Sp_measure_143 rfl rfl (by decide) (Nat.le_of_ble_eq_true rfl) ?_
        refine r_goto (tgt := 2) d_Sp_measure_146 rfl ?_
        have eln : ln ns i = 1 + (ln ns (nd ns i).2.1 + plus2 (b1 ns i)) + (ln ns (nd ns i).2.2.1 + plus2 (b2 ns i)) := by first | exact (ln_3 hv (by omega) (by omega)) | exact (ln_5 hv (by omega) (by omega)) | exact (ln_6 hv (by omega) (by omega)) | exact (ln_7 hv (by omega) (by omega)) | exact (ln_4 hv (by omega) (by omega))
        refine Run.sub (l2 := [(0, .ref 740), (1, .ref c), (2, .int (nI (i + 1)))]) ⟨rfl, rfl, rfl, trivial⟩ ?_
        exact ih_ (ns.length - (i + 1)) (by omega) (i + 1) I7 rfl (fun j hj => by
          by_cases q : j = i
          · subst q; rw [eln]; exact rd_eq hI7
          · exact (rd_nk hI7 q).trans (v0_ j (by omega))) (fun a j q => (rd_ne hI7 q).trans (v1_ a j q)) (by omega)
      · obtain rfl : t2 = 110 := by
          have hh : (some (95 : Int)) = some off := by rw [c2e] at c2o; exact c2o
          cases hh; omega
        refine r_aload_n (x := some 740) (pc2 := 111) d_Sp_measure_110 rfl rfl ?_
        refine q_getR (x := some 741) (pc2 := 114) d_Sp_measure_111 rfl k_Sp_9 rfl (sh_740 hS) (rf_740_0 hR) ?_
        refine r_iload_n (pc2 := 115) d_Sp_measure_114 rfl rfl ?_
        refine r_iconst (v := nI 1) (pc2 := 116) d_Sp_measure_115 rfl (by decide) ?_
        refine r_aload_n (x := some 740) (pc2 := 117) d_Sp_measure_116 rfl rfl ?_
        refine r_aload_n (x := some c) (pc2 := 118) d_Sp_measure_117 rfl rfl ?_
        refine r_iload_n (pc2 := 119) d_Sp_measure_118 rfl rfl ?_
        refine r_iconst (v := nI 1) (pc2 := 120) d_Sp_measure_119 rfl (by decide) ?_
        refine q_callv (M2 := mi_Sp_partLength) (pc2 := 123) d_Sp_measure_120 rfl k_Sp_53 cm_Sp_partLength cv_Sp_partLength (sh_740 hS) (by decide) rfl rfl rfl (Nat.le_of_ble_eq_true rfl) (k_Sp_partLength_1 (J := J1) hS hR (n := i) hC hv hl (by omega) (by omega) (v0_ _ (by omega)) (by omega)) (d2 := d - 1) (by omega) (Nat.le_of_eq (Nat.zero_add _)) (Nat.le_of_eq (Nat.zero_add _)) ?_
        refine q_iaddN (pc2 := 124) d_Sp_measure_123 rfl ?_
        refine r_aload_n (x := some 740) (pc2 := 125) d_Sp_measure_124 rfl rfl ?_
        refine r_aload_n (x := some c) (pc2 := 126) d_Sp_measure_125 rfl rfl ?_
        refine r_iload_n (pc2 := 127) d_Sp_measure_126 rfl rfl ?_
        refine r_iconst (v := nI 2) (pc2 := 128) d_Sp_measure_127 rfl (by decide) ?_
        refine q_callv (M2 := mi_Sp_partLength) (pc2 := 131) d_Sp_measure_128 rfl k_Sp_53 cm_Sp_partLength cv_Sp_partLength (sh_740 hS) (by decide) rfl rfl rfl (Nat.le_of_ble_eq_true rfl) (k_Sp_partLength_2 (J := J1) hS hR (n := i) hC hv hl (by omega) (by omega) (v0_ _ (by omega)) (by omega)) (d2 := d - 1) (by omega) (Nat.le_of_eq (Nat.zero_add _)) (Nat.le_of_eq (Nat.zero_add _)) ?_
        refine q_iaddN (pc2 := 132) d_Sp_measure_131 rfl ?_
        refine q_iastore (q := i) (pc2 := 133) d_Sp_measure_132 rfl (sh_741 hS) (nI_toInt (by omega)) (by omega) (fun I8 hI8 => ?_)
        refine r_goto (tgt := 143) d_Sp_measure_133 rfl ?_
        refine q_iinc (b := 1) (pc2 := 146) d_Sp_measure_143 rfl rfl (by decide) (Nat.le_of_ble_eq_true rfl) ?_
        refine r_goto (tgt := 2) d_Sp_measure_146 rfl ?_
        have eln : ln ns i = 1 + (ln ns (nd ns i).2.1 + plus2 (b1 ns i)) + (ln ns (nd ns i).2.2.1 + plus2 (b2 ns i)) := by first | exact (ln_3 hv (by omega) (by omega)) | exact (ln_5 hv (by omega) (by omega)) | exact (ln_6 hv (by omega) (by omega)) | exact (ln_7 hv (by omega) (by omega)) | exact (ln_4 hv (by omega) (by omega))
        refine Run.sub (l2 := [(0, .ref 740), (1, .ref c), (2, .int (nI (i + 1)))]) ⟨rfl, rfl, rfl, trivial⟩ ?_
        exact ih_ (ns.length - (i + 1)) (by omega) (i + 1) I8 rfl (fun j hj => by
          by_cases q : j = i
          · subst q; rw [eln]; exact rd_eq hI8
          · exact (rd_nk hI8 q).trans (v0_ j (by omega))) (fun a j q => (rd_ne hI8 q).trans (v1_ a j q)) (by omega)
    · refine r_aload_n (x := some 740) (pc2 := 137) d_Sp_measure_136 rfl rfl ?_
      refine q_getR (x := some 741) (pc2 := 140) d_Sp_measure_137 rfl k_Sp_9 rfl (sh_740 hS) (rf_740_0 hR) ?_
      refine r_iload_n (pc2 := 141) d_Sp_measure_140 rfl rfl ?_
      refine r_iconst (v := nI 1) (pc2 := 142) d_Sp_measure_141 rfl (by decide) ?_
      refine q_iastore (q := i) (pc2 := 143) d_Sp_measure_142 rfl (sh_741 hS) (nI_toInt (by omega)) (by omega) (fun I9 hI9 => ?_)
      refine q_iinc (b := 1) (pc2 := 146) d_Sp_measure_143 rfl rfl (by decide) (Nat.le_of_ble_eq_true rfl) ?_
      refine r_goto (tgt := 2) d_Sp_measure_146 rfl ?_
      have eln : ln ns i = 1 := by first | exact (ln_3 hv (by omega) (by omega)) | exact (ln_5 hv (by omega) (by omega)) | exact (ln_6 hv (by omega) (by omega)) | exact (ln_7 hv (by omega) (by omega)) | exact (ln_4 hv (by omega) (by omega))
      refine Run.sub (l2 := [(0, .ref 740), (1, .ref c), (2, .int (nI (i + 1)))]) ⟨rfl, rfl, rfl, trivial⟩ ?_
      exact ih_ (ns.length - (i + 1)) (by omega) (i + 1) I9 rfl (fun j hj => by
        by_cases q : j = i
        · subst q; rw [eln]; exact rd_eq hI9
        · exact (rd_nk hI9 q).trans (v0_ j (by omega))) (fun a j q => (rd_ne hI9 q).trans (v1_ a j q)) (by omega)
theorem k_Sp_measure {d : Nat} {J : Nat → Nat → Int32} {R : Nat → Nat → Option Nat} {L : Nat → Nat → Int64} {sh : Nat → Nat × Nat} {N : Nat} (hS : ShOK sh) (hR : RfOK R) {c : Nat} {ns : List Nd} (hC : CoK c ns J R sh) (hv : NV ns) (hl : ns.length < 250) (h0 : 0 < ns.length) (hc : 781 ≤ c) (hd : 5 ≤ d) : Mt mi_Sp_measure d 0 0 [.ref 740, .ref c] (J, R, L, sh, N) (fun x h2 => x = none ∧ ∃ K, h2 = (K, R, L, sh, N) ∧ (∀ j, j < ns.length → K 741 j = nI (ln ns j)) ∧ ∀ a j, a ≠ 741 → K a j = J a j) := by
  refine Mt.of pn_Sp (Nat.le_of_ble_eq_true rfl) ?_
  show Run mi_Sp_measure d 0 0 0 [(0, .ref 740), (1, .ref c)] [] (J, R, L, sh, N) _
  refine r_iconst (v := nI 0) (pc2 := 1) d_Sp_measure_0 rfl (by decide) ?_
  refine r_istore_n (pc2 := 2) d_Sp_measure_1 rfl rfl (Nat.le_of_ble_eq_true rfl) ?_
  refine Run.sub (l2 := [(0, .ref 740), (1, .ref c), (2, .int (nI 0))]) ⟨rfl, rfl, rfl, trivial⟩ ?_
  exact l_Sp_measure hS hR hC hv hl h0 hc (fun K a b => ⟨rfl, K, rfl, a, b⟩) hd _ 0 J rfl (fun j hj => absurd hj (by omega)) (fun _ _ _ => rfl) (Nat.zero_le _)
