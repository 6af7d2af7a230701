/-! THE SPELLER: a part is placed -/
/-- the text l stands in W from s on -/
def CS (W : List Int32) (s : Nat) (l : List Int32) : Prop := s + l.length ≤ W.length ∧ ∀ k, k < l.length → W.getD (s + k) 0 = l.getD k 0
theorem CS.hd {W : List Int32} {s : Nat} {a : Int32} {l : List Int32} (h : CS W s (a :: l)) : s < W.length ∧ W.getD s 0 = a ∧ CS W (s + 1) l := by
  obtain ⟨h1, h2⟩ := h
  rw [List.length_cons] at h1
  refine ⟨by omega, h2 0 (by rw [List.length_cons]; omega), by omega, fun k hk => ?_⟩
  have := h2 (k + 1) (by rw [List.length_cons]; omega)
  rw [show s + 1 + k = s + (k + 1) by omega]; exact this
theorem CS.app {W : List Int32} {s : Nat} {l r : List Int32} (h : CS W s (l ++ r)) : CS W s l ∧ CS W (s + l.length) r := by
  obtain ⟨h1, h2⟩ := h
  rw [List.length_append] at h1
  refine ⟨⟨by omega, fun k hk => ?_⟩, by omega, fun k hk => ?_⟩
  · have := h2 k (by rw [List.length_append]; omega)
    rw [this, List.getD_eq_getElem?_getD, List.getD_eq_getElem?_getD, List.getElem?_append_left hk]
  · have := h2 (l.length + k) (by rw [List.length_append]; omega)
    rw [show s + l.length + k = s + (l.length + k) by omega, this, List.getD_eq_getElem?_getD, List.getD_eq_getElem?_getD, List.getElem?_append_right (by omega), show l.length + k - l.length = k by omega]
theorem CS.rf {W : List Int32} : CS W 0 W := ⟨by omega, fun k _ => by rw [Nat.zero_add]⟩
def off (b : Bool) : Nat := if b = true then 1 else 0
theorem CS.bk {W : List Int32} {s : Nat} {b : Bool} {l : List Int32} (h : CS W s (bk b l)) : CS W (s + off b) l ∧ (b = true → W.getD s 0 = nI 40 ∧ W.getD (s + 1 + l.length) 0 = nI 41 ∧ s + 1 + l.length < W.length) := by
  unfold off
  cases b with
  | false => exact ⟨h, fun z => by cases z⟩
  | true =>
    have h2 : CS W s (nI 40 :: (l ++ [nI 41])) := h
    obtain ⟨a1, a2, a3⟩ := h2.hd
    obtain ⟨c1, c2⟩ := a3.app
    obtain ⟨d1, d2, -⟩ := c2.hd
    exact ⟨c1, fun _ => ⟨a2, d2, d1⟩⟩
/-- what a part's placing leaves: child, where its brackets begin, whether -/
def PLP (W : List Int32) (X q ln : Nat) (b : Bool) (J K : Nat → Nat → Int32) : Prop := (∀ a j, a ≠ 742 → a ≠ 743 → K a j = J a j) ∧ K 742 X = nI (q + off b) ∧ (∀ j, j ≠ X → K 742 j = J 742 j) ∧ (∀ p, K 743 p = J 743 p ∨ (p < W.length ∧ K 743 p = W.getD p 0)) ∧ ∀ p, q ≤ p → p < q + (ln + plus2 b) → (q + off b ≤ p ∧ p < q + off b + ln) ∨ K 743 p = W.getD p 0
theorem k_Sp_placePart_1 {d : Nat} {J : Nat → Nat → Int32} {R : Nat → Nat → Option Nat} {L : Nat → Nat → Int64} {sh : Nat → Nat × Nat} {N : Nat} (hS : ShOK sh) (hR : RfOK R) {c n : Nat} {ns : List Nd} (hC : CoK c ns J R sh) (hv : NV ns) (hl : ns.length < 250) (hn : n < ns.length) {W : List Int32} (hW : W.length ≤ 256) {q : Nat} (hk : (nd ns n).1 = 3 ∨ 7 ≤ (nd ns n).1) (hcs : CS W q (bk (b1 ns n) (tx ns (nd ns n).2.1))) (hL : J 741 (nd ns n).2.1 = nI (ln ns (nd ns n).2.1)) (hd : 4 ≤ d) : Mt mi_Sp_placePart d 0 0 [.ref 740, .ref c, .int (nI n), .int (nI 1), .int (nI q)] (J, R, L, sh, N) (fun x h2 => x = none ∧ ∃ K, h2 = (K, R, L, sh, N) ∧ PLP W (nd ns n).2.1 q (ln ns (nd ns n).2.1) (b1 ns n) J K) := by
  obtain ⟨hv1, hv2, hv3, hv4, hv5⟩ := hv.nd hn
  have hx := hv2 hk
  obtain ⟨hcs1, hcs2⟩ := hcs.bk
  rw [tx_len hv _ (by omega)] at hcs2
  have hcl := hcs1.1
  rw [tx_len hv _ (by omega)] at hcl
  refine Mt.of pn_Sp (Nat.le_of_ble_eq_true rfl) ?_
  show Run mi_Sp_placePart d 0 0 0 [(0, .ref 740), (1, .ref c), (2, .int (nI n)), (3, .int (nI 1)), (4, .int (nI q))] [] (J, R, L, sh, N) _
  refine r_aload_n (x := some c) (pc2 := 1) d_Sp_placePart_0 rfl rfl ?_
  refine r_iload_n (pc2 := 2) d_Sp_placePart_1 rfl rfl ?_
  refine r_iload_n (pc2 := 3) d_Sp_placePart_2 rfl rfl ?_
  refine q_callv (M2 := mi_Co_partOf) (pc2 := 6) d_Sp_placePart_3 rfl k_Sp_66 cm_Co_partOf cv_Co_partOf hC.1.1 (by decide) rfl rfl rfl (Nat.le_of_ble_eq_true rfl) (k_Co_partOf_1 (J := J) hS hR hC hv hl hn (by omega) (by omega)) (d2 := d - 1) (by omega) (Nat.le_of_eq (Nat.zero_add _)) (Nat.le_of_eq (Nat.zero_add _)) ?_
  refine r_istore (pc2 := 8) d_Sp_placePart_6 rfl (Nat.le_of_ble_eq_true rfl) ?_
  refine r_iload (pc2 := 10) d_Sp_placePart_8 rfl rfl ?_
  refine r_iconst (v := (-1 : Int32)) (pc2 := 11) d_Sp_placePart_10 rfl (by decide) ?_
  refine q_icmp_ne (tgt := 15) (A := (((nd ns n).2.1 : Nat) : Int)) (B := (-1 : Int)) (pc2 := 14) d_Sp_placePart_11 rfl rfl (nI_toInt (by omega)) (by decide) (fun c1 => ?_) (fun c1 => ?_)
  rotate_left
  · exfalso; omega
  refine r_aload_n (x := some c) (pc2 := 16) d_Sp_placePart_15 rfl rfl ?_
  refine r_iload_n (pc2 := 17) d_Sp_placePart_16 rfl rfl ?_
  refine r_iload_n (pc2 := 18) d_Sp_placePart_17 rfl rfl ?_
  refine q_calls (M2 := mi_Sp_isBracketed) (pc2 := 21) d_Sp_placePart_18 rfl k_Sp_70 cm_Sp_isBracketed cs_Sp_isBracketed rfl rfl (Nat.le_of_ble_eq_true rfl) (k_Sp_isBracketed_1 (J := J) hS hR hC hv hl hn (by omega) (by omega)) (d2 := d - 1) (by omega) (Nat.le_of_eq (Nat.zero_add _)) (Nat.le_of_eq (Nat.zero_add _)) ?_
  refine q_bif_eq (tgt := 64) (pc2 := 24) d_Sp_placePart_21 rfl rfl (fun c2 => ?_) (fun c2 => ?_)
  · have hof : off (b1 ns n) = 0 := if_neg c2
    have hp2 : plus2 (b1 ns n) = 0 := if_neg c2
    rw [hof] at hcl
    refine r_aload_n (x := some 740) (pc2 := 65) d_Sp_placePart_64 rfl rfl ?_
    refine q_getR (x := some 742) (pc2 := 68) d_Sp_placePart_65 rfl k_Sp_15 rfl (sh_740 hS) (rf_740_1 hR) ?_
    refine r_iload (pc2 := 70) d_Sp_placePart_68 rfl rfl ?_
    refine r_iload (pc2 := 72) d_Sp_placePart_70 rfl rfl ?_
    refine q_iastore (q := (nd ns n).2.1) (pc2 := 73) d_Sp_placePart_72 rfl (sh_742 hS) (nI_toInt (by omega)) (by omega) (fun I3 hI3 => ?_)
    refine Run.ret none d_Sp_placePart_73 rfl ?_
    refine ⟨rfl, _, rfl, fun a j q1 q2 => rd_ne hI3 q1, by rw [hof]; exact rd_eq hI3, fun j q1 => rd_nk hI3 q1, fun p => Or.inl (rd_ne hI3 (by decide)), fun p q1 q2 => ?_⟩
    rw [hof]
    rw [hp2] at q2
    exact Or.inl ⟨by omega, by omega⟩
  · obtain ⟨hy1, hy2, hy3⟩ := hcs2 c2
    have hof : off (b1 ns n) = 1 := if_pos c2
    have hp2 : plus2 (b1 ns n) = 2 := if_pos c2
    rw [hof] at hcl
    refine r_aload_n (x := some 740) (pc2 := 25) d_Sp_placePart_24 rfl rfl ?_
    refine r_iload (pc2 := 27) d_Sp_placePart_25 rfl rfl ?_
    refine r_bipush (v := nI 40) (pc2 := 29) d_Sp_placePart_27 rfl (by decide) ?_
    refine r_callv (M2 := mi_Sp_put) (pc2 := 32) d_Sp_placePart_29 rfl k_Sp_74 cm_Sp_put cv_Sp_put (sh_740 hS) (by decide) rfl rfl rfl (Nat.le_of_ble_eq_true rfl) (c_Sp_put (J := J) hS hR (a := q) (v := nI 40) (by omega)) (d2 := d - 1) (by omega) (Nat.le_of_eq (Nat.zero_add _)) (Nat.le_of_eq (Nat.zero_add _)) (fun r2 h2 hq2 => ?_)
    obtain ⟨rfl, I4, rfl, hI4⟩ := hq2
    refine r_aload_n (x := some 740) (pc2 := 33) d_Sp_placePart_32 rfl rfl ?_
    refine q_getR (x := some 742) (pc2 := 36) d_Sp_placePart_33 rfl k_Sp_15 rfl (sh_740 hS) (rf_740_1 hR) ?_
    refine r_iload (pc2 := 38) d_Sp_placePart_36 rfl rfl ?_
    refine r_iload (pc2 := 40) d_Sp_placePart_38 rfl rfl ?_
    refine r_iconst (v := nI 1) (pc2 := 41) d_Sp_placePart_40 rfl (by decide) ?_
    refine q_iaddN (pc2 := 42) d_Sp_placePart_41 rfl ?_
    refine q_iastore (q := (nd ns n).2.1) (pc2 := 43) d_Sp_placePart_42 rfl (sh_742 hS) (nI_toInt (by omega)) (by omega) (fun I5 hI5 => ?_)
    refine r_aload_n (x := some 740) (pc2 := 44) d_Sp_placePart_43 rfl rfl ?_
    refine r_iload (pc2 := 46) d_Sp_placePart_44 rfl rfl ?_
    refine r_iconst (v := nI 1) (pc2 := 47) d_Sp_placePart_46 rfl (by decide) ?_
    refine q_iaddN (pc2 := 48) d_Sp_placePart_47 rfl ?_
    refine r_aload_n (x := some 740) (pc2 := 49) d_Sp_placePart_48 rfl rfl ?_
    refine q_getR (x := some 741) (pc2 := 52) d_Sp_placePart_49 rfl k_Sp_9 rfl (sh_740 hS) (rf_740_0 hR) ?_
    refine r_iload (pc2 := 54) d_Sp_placePart_52 rfl rfl ?_
    refine q_iaload (q := (nd ns n).2.1) (x := nI (ln ns (nd ns n).2.1)) (pc2 := 55) d_Sp_placePart_54 rfl (sh_741 hS) (nI_toInt (by omega)) (by omega) ((rd_ne hI5 (by decide)).trans ((rd_ne hI4 (by decide)).trans (hL))) ?_
    refine q_iaddN (pc2 := 56) d_Sp_placePart_55 rfl ?_
    refine r_bipush (v := nI 41) (pc2 := 58) d_Sp_placePart_56 rfl (by decide) ?_
    refine r_callv (M2 := mi_Sp_put) (pc2 := 61) d_Sp_placePart_58 rfl k_Sp_74 cm_Sp_put cv_Sp_put (sh_740 hS) (by decide) rfl rfl rfl (Nat.le_of_ble_eq_true rfl) (c_Sp_put (J := I5) hS hR (a := q + 1 + (ln ns (nd ns n).2.1)) (v := nI 41) (by omega)) (d2 := d - 1) (by omega) (Nat.le_of_eq (Nat.zero_add _)) (Nat.le_of_eq (Nat.zero_add _)) (fun r2 h2 hq2 => ?_)
    obtain ⟨rfl, I6, rfl, hI6⟩ := hq2
    refine r_goto (tgt := 73) d_Sp_placePart_61 rfl ?_
    refine Run.ret none d_Sp_placePart_73 rfl ?_
    refine ⟨rfl, _, rfl, fun a j q1 q2 => (rd_ne hI6 q2).trans ((rd_ne hI5 q1).trans (rd_ne hI4 q2)), by rw [hof]; exact (rd_ne hI6 (by decide)).trans (rd_eq hI5), fun j q1 => (rd_ne hI6 (by decide)).trans ((rd_nk hI5 q1).trans (rd_ne hI4 (by decide))), fun p => ?_, fun p q1 q2 => ?_⟩
    · by_cases y : p = q + 1 + ln ns (nd ns n).2.1
      · subst y; exact Or.inr ⟨hy3, (rd_eq hI6).trans hy2.symm⟩
      · by_cases y2 : p = q
        · subst y2; exact Or.inr ⟨by omega, (rd_nk hI6 y).trans ((rd_ne hI5 (by decide)).trans ((rd_eq hI4).trans hy1.symm))⟩
        · exact Or.inl ((rd_nk hI6 y).trans ((rd_ne hI5 (by decide)).trans (rd_nk hI4 y2)))
    · rw [hof]
      rw [hp2] at q2
      by_cases y : p = q + 1 + ln ns (nd ns n).2.1
      · subst y; exact Or.inr ((rd_eq hI6).trans hy2.symm)
      · by_cases y2 : p = q
        · subst y2; exact Or.inr ((rd_nk hI6 y).trans ((rd_ne hI5 (by decide)).trans ((rd_eq hI4).trans hy1.symm)))
        · exact Or.inl ⟨by omega, by omega⟩
theorem k_Sp_placePart_2 {d : Nat} {J : Nat → Nat → Int32} {R : Nat → Nat → Option Nat} {L : Nat → Nat → Int64} {sh : Nat → Nat × Nat} {N : Nat} (hS : ShOK sh) (hR : RfOK R) {c n : Nat} {ns : List Nd} (hC : CoK c ns J R sh) (hv : NV ns) (hl : ns.length < 250) (hn : n < ns.length) {W : List Int32} (hW : W.length ≤ 256) {q : Nat} (hk : 7 ≤ (nd ns n).1) (hcs : CS W q (bk (b2 ns n) (tx ns (nd ns n).2.2.1))) (hL : J 741 (nd ns n).2.2.1 = nI (ln ns (nd ns n).2.2.1)) (hd : 4 ≤ d) : Mt mi_Sp_placePart d 0 0 [.ref 740, .ref c, .int (nI n), .int (nI 2), .int (nI q)] (J, R, L, sh, N) (fun x h2 => x = none ∧ ∃ K, h2 = (K, R, L, sh, N) ∧ PLP W (nd ns n).2.2.1 q (ln ns (nd ns n).2.2.1) (b2 ns n) J K) := by
  obtain ⟨hv1, hv2, hv3, hv4, hv5⟩ := hv.nd hn
  have hx := hv2 (Or.inr hk)
  have hy := hv3 hk
  obtain ⟨hcs1, hcs2⟩ := hcs.bk
  rw [tx_len hv _ (by omega)] at hcs2
  have hcl := hcs1.1
  rw [tx_len hv _ (by omega)] at hcl
  refine Mt.of pn_Sp (Nat.le_of_ble_eq_true rfl) ?_
  show Run mi_Sp_placePart d 0 0 0 [(0, .ref 740), (1, .ref c), (2, .int (nI n)), (3, .int (nI 2)), (4, .int (nI q))] [] (J, R, L, sh, N) _
  refine r_aload_n (x := some c) (pc2 := 1) d_Sp_placePart_0 rfl rfl ?_
  refine r_iload_n (pc2 := 2) d_Sp_placePart_1 rfl rfl ?_
  refine r_iload_n (pc2 := 3) d_Sp_placePart_2 rfl rfl ?_
  refine q_callv (M2 := mi_Co_partOf) (pc2 := 6) d_Sp_placePart_3 rfl k_Sp_66 cm_Co_partOf cv_Co_partOf hC.1.1 (by decide) rfl rfl rfl (Nat.le_of_ble_eq_true rfl) (k_Co_partOf_2 (J := J) hS hR hC hv hl hn (by omega) (by omega)) (d2 := d - 1) (by omega) (Nat.le_of_eq (Nat.zero_add _)) (Nat.le_of_eq (Nat.zero_add _)) ?_
  refine r_istore (pc2 := 8) d_Sp_placePart_6 rfl (Nat.le_of_ble_eq_true rfl) ?_
  refine r_iload (pc2 := 10) d_Sp_placePart_8 rfl rfl ?_
  refine r_iconst (v := (-1 : Int32)) (pc2 := 11) d_Sp_placePart_10 rfl (by decide) ?_
  refine q_icmp_ne (tgt := 15) (A := (((nd ns n).2.2.1 : Nat) : Int)) (B := (-1 : Int)) (pc2 := 14) d_Sp_placePart_11 rfl rfl (nI_toInt (by omega)) (by decide) (fun c1 => ?_) (fun c1 => ?_)
  rotate_left
  · exfalso; omega
  refine r_aload_n (x := some c) (pc2 := 16) d_Sp_placePart_15 rfl rfl ?_
  refine r_iload_n (pc2 := 17) d_Sp_placePart_16 rfl rfl ?_
  refine r_iload_n (pc2 := 18) d_Sp_placePart_17 rfl rfl ?_
  refine q_calls (M2 := mi_Sp_isBracketed) (pc2 := 21) d_Sp_placePart_18 rfl k_Sp_70 cm_Sp_isBracketed cs_Sp_isBracketed rfl rfl (Nat.le_of_ble_eq_true rfl) (k_Sp_isBracketed_2 (J := J) hS hR hC hv hl hn (by omega) (by omega)) (d2 := d - 1) (by omega) (Nat.le_of_eq (Nat.zero_add _)) (Nat.le_of_eq (Nat.zero_add _)) ?_
  refine q_bif_eq (tgt := 64) (pc2 := 24) d_Sp_placePart_21 rfl rfl (fun c2 => ?_) (fun c2 => ?_)
  · have hof : off (b2 ns n) = 0 := if_neg c2
    have hp2 : plus2 (b2 ns n) = 0 := if_neg c2
    rw [hof] at hcl
    refine r_aload_n (x := some 740) (pc2 := 65) d_Sp_placePart_64 rfl rfl ?_
    refine q_getR (x := some 742) (pc2 := 68) d_Sp_placePart_65 rfl k_Sp_15 rfl (sh_740 hS) (rf_740_1 hR) ?_
    refine r_iload (pc2 := 70) d_Sp_placePart_68 rfl rfl ?_
    refine r_iload (pc2 := 72) d_Sp_placePart_70 rfl rfl ?_
    refine q_iastore (q := (nd ns n).2.2.1) (pc2 := 73) d_Sp_placePart_72 rfl (sh_742 hS) (nI_toInt (by omega)) (by omega) (fun I3 hI3 => ?_)
    refine Run.ret none d_Sp_placePart_73 rfl ?_
    refine ⟨rfl, _, rfl, fun a j q1 q2 => rd_ne hI3 q1, by rw [hof]; exact rd_eq hI3, fun j q1 => rd_nk hI3 q1, fun p => Or.inl (rd_ne hI3 (by decide)), fun p q1 q2 => ?_⟩
    rw [hof]
    rw [hp2] at q2
    exact Or.inl ⟨by omega, by omega⟩
  · obtain ⟨hy1, hy2, hy3⟩ := hcs2 c2
    have hof : off (b2 ns n) = 1 := if_pos c2
    have hp2 : plus2 (b2 ns n) = 2 := if_pos c2
    rw [hof] at hcl
    refine r_aload_n (x := some 740) (pc2 := 25) d_Sp_placePart_24 rfl rfl ?_
    refine r_iload (pc2 := 27) d_Sp_placePart_25 rfl rfl ?_
    refine r_bipush (v := nI 40) (pc2 := 29) d_Sp_placePart_27 rfl (by decide) ?_
    refine r_callv (M2 := mi_Sp_put) (pc2 := 32) d_Sp_placePart_29 rfl k_Sp_74 cm_Sp_put cv_Sp_put (sh_740 hS) (by decide) rfl rfl rfl (Nat.le_of_ble_eq_true rfl) (c_Sp_put (J := J) hS hR (a := q) (v := nI 40) (by omega)) (d2 := d - 1) (by omega) (Nat.le_of_eq (Nat.zero_add _)) (Nat.le_of_eq (Nat.zero_add _)) (fun r2 h2 hq2 => ?_)
    obtain ⟨rfl, I4, rfl, hI4⟩ := hq2
    refine r_aload_n (x := some 740) (pc2 := 33) d_Sp_placePart_32 rfl rfl ?_
    refine q_getR (x := some 742) (pc2 := 36) d_Sp_placePart_33 rfl k_Sp_15 rfl (sh_740 hS) (rf_740_1 hR) ?_
    refine r_iload (pc2 := 38) d_Sp_placePart_36 rfl rfl ?_
    refine r_iload (pc2 := 40) d_Sp_placePart_38 rfl rfl ?_
    refine r_iconst (v := nI 1) (pc2 := 41) d_Sp_placePart_40 rfl (by decide) ?_
    refine q_iaddN (pc2 := 42) d_Sp_placePart_41 rfl ?_
    refine q_iastore (q := (nd ns n).2.2.1) (pc2 := 43) d_Sp_placePart_42 rfl (sh_742 hS) (nI_toInt (by omega)) (by omega) (fun I5 hI5 => ?_)
    refine r_aload_n (x := some 740) (pc2 := 44) d_Sp_placePart_43 rfl rfl ?_
    refine r_iload (pc2 := 46) d_Sp_placePart_44 rfl rfl ?_
    refine r_iconst (v := nI 1) (pc2 := 47) d_Sp_placePart_46 rfl (by decide) ?_
    refine q_iaddN (pc2 := 48) d_Sp_placePart_47 rfl ?_
    refine r_aload_n (x := some 740) (pc2 := 49) d_Sp_placePart_48 rfl rfl ?_
    refine q_getR (x := some 741) (pc2 := 52) d_Sp_placePart_49 rfl k_Sp_9 rfl (sh_740 hS) (rf_740_0 hR) ?_
    refine r_iload (pc2 := 54) d_Sp_placePart_52 rfl rfl ?_
    refine q_iaload (q := (nd ns n).2.2.1) (x := nI (ln ns (nd ns n).2.2.1)) (pc2 := 55) d_Sp_placePart_54 rfl (sh_741 hS) (nI_toInt (by omega)) (by omega) ((rd_ne hI5 (by decide)).trans ((rd_ne hI4 (by decide)).trans (hL))) ?_
    refine q_iaddN (pc2 := 56) d_Sp_placePart_55 rfl ?_
    refine r_bipush (v := nI 41) (pc2 := 58) d_Sp_placePart_56 rfl (by decide) ?_
    refine r_callv (M2 := mi_Sp_put) (pc2 := 61) d_Sp_placePart_58 rfl k_Sp_74 cm_Sp_put cv_Sp_put (sh_740 hS) (by decide) rfl rfl rfl (Nat.le_of_ble_eq_true rfl) (c_Sp_put (J := I5) hS hR (a := q + 1 + (ln ns (nd ns n).2.2.1)) (v := nI 41) (by omega)) (d2 := d - 1) (by omega) (Nat.le_of_eq (Nat.zero_add _)) (Nat.le_of_eq (Nat.zero_add _)) (fun r2 h2 hq2 => ?_)
    obtain ⟨rfl, I6, rfl, hI6⟩ := hq2
    refine r_goto (tgt := 73) d_Sp_placePart_61 rfl ?_
    refine Run.ret none d_Sp_placePart_73 rfl ?_
    refine ⟨rfl, _, rfl, fun a j q1 q2 => (rd_ne hI6 q2).trans ((rd_ne hI5 q1).trans (rd_ne hI4 q2)), by rw [hof]; exact (rd_ne hI6 (by decide)).trans (rd_eq hI5), fun j q1 => (rd_ne hI6 (by decide)).trans ((rd_nk hI5 q1).trans (rd_ne hI4 (by decide))), fun p => ?_, fun p q1 q2 => ?_⟩
    · by_cases y : p = q + 1 + ln ns (nd ns n).2.2.1
      · subst y; exact Or.inr ⟨hy3, (rd_eq hI6).trans hy2.symm⟩
      · by_cases y2 : p = q
        · subst y2; exact Or.inr ⟨by omega, (rd_nk hI6 y).trans ((rd_ne hI5 (by decide)).trans ((rd_eq hI4).trans hy1.symm))⟩
        · exact Or.inl ((rd_nk hI6 y).trans ((rd_ne hI5 (by decide)).trans (rd_nk hI4 y2)))
    · rw [hof]
      rw [hp2] at q2
      by_cases y : p = q + 1 + ln ns (nd ns n).2.2.1
      · subst y; exact Or.inr ((rd_eq hI6).trans hy2.symm)
      · by_cases y2 : p = q
        · subst y2; exact Or.inr ((rd_nk hI6 y).trans ((rd_ne hI5 (by decide)).trans ((rd_eq hI4).trans hy1.symm)))
        · exact Or.inl ⟨by omega, by omega⟩
