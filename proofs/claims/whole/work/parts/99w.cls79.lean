/-! THE SPELLER: the answer -/
/-- the letters hold the text l -/
def WT (K : Nat → Nat → Int32) (l : List Int32) : Prop := ∀ p, p < l.length → K 743 p = l.getD p 0
theorem WT.put {J K : Nat → Nat → Int32} {l : List Int32} {v : Int32} {s : Nat} (h : WT J l) (hs : s = l.length) (e : K = u2 J 743 s v) : WT K (l ++ [v]) := by
  subst hs
  intro p hp
  rw [List.length_append, List.length_singleton] at hp
  by_cases y : p = l.length
  · subst y; rw [rd_eq e, List.getD_eq_getElem?_getD, List.getElem?_append_right (Nat.le_refl _), Nat.sub_self]; rfl
  · rw [rd_nk e y, h p (by omega), List.getD_eq_getElem?_getD, List.getD_eq_getElem?_getD, List.getElem?_append_left (by omega)]
theorem WT.num {J K : Nat → Nat → Int32} {l : List Int32} {v s : Nat} (hv : v < 1000000) (h : WT J l) (hs : s = l.length) (h1 : ∀ j, j < dgN v → K 743 (s + j) = (spn v).getD j 0) (h2 : ∀ a j, ¬ (a = 743 ∧ s ≤ j ∧ j < s + dgN v) → K a j = J a j) : WT K (l ++ spn v) := by
  subst hs
  intro p hp
  rw [List.length_append, (spn_g hv).1] at hp
  by_cases y : p < l.length
  · rw [h2 743 p (by omega), h p y, List.getD_eq_getElem?_getD, List.getD_eq_getElem?_getD, List.getElem?_append_left y]
  · have := h1 (p - l.length) (by omega)
    rw [show l.length + (p - l.length) = p by omega] at this
    rw [this, List.getD_eq_getElem?_getD, List.getD_eq_getElem?_getD, List.getElem?_append_right (by omega)]
theorem WT.c {J K : Nat → Nat → Int32} {l : List Int32} (h : WT J l) (e : ∀ j, K 743 j = J 743 j) : WT K l := fun p hp => (e p).trans (h p hp)
theorem len_num {l : List Int32} {v : Nat} (hv : v < 1000000) : (l ++ spn v).length = l.length + dgN v := by rw [List.length_append, (spn_g hv).1]
theorem len_ch {l : List Int32} {v : Int32} : (l ++ [v]).length = l.length + 1 := by rw [List.length_append, List.length_singleton]
theorem k_Sp_spellAnswer_F {d : Nat} {J : Nat → Nat → Int32} {R : Nat → Nat → Option Nat} {L : Nat → Nat → Int64} {sh : Nat → Nat × Nat} {N : Nat} (hS : ShOK sh) (hR : RfOK R) {q : Nat} (hq0 : sh q = (6, 0)) (hq1 : sh (q + 1) = (12, 3)) (hq2 : R q 2 = some (q + 1)) (hqn : q < 740 ∧ q + 1 < 740) {W : List Int32} (hW : W.length ≤ 250) (hw : WT J W) (hsz : J 740 3 = nI W.length) {v : Nat} (hv9 : v ≤ 9) (hf : J q 1 = nI v) (hd : 3 ≤ d) : Mt mi_Sp_spellAnswer d 0 0 [.ref 740, .ref q] (J, R, L, sh, N) (fun x h2 => x = none ∧ ∃ K, h2 = (K, R, L, sh, N) ∧ (∀ a j, a ≠ 740 → a ≠ 743 → K a j = J a j) ∧ K 740 3 = nI (W ++ nI 58 :: spn v).length ∧ WT K (W ++ nI 58 :: spn v)) := by
  have hdv := dgN_b (v := v)
  refine Mt.of pn_Sp (Nat.le_of_ble_eq_true rfl) ?_
  show Run mi_Sp_spellAnswer d 0 0 0 [(0, .ref 740), (1, .ref q)] [] (J, R, L, sh, N) _
  have hof0 : ∀ a j, a ≠ 740 → a ≠ 743 → J a j = J a j := fun _ _ _ _ => rfl
  refine r_aload_n (x := some q) (pc2 := 1) d_Sp_spellAnswer_0 rfl rfl ?_
  refine q_callv (M2 := mi_Ru_isFixed) (pc2 := 4) d_Sp_spellAnswer_1 rfl k_Sp_88 cm_Ru_isFixed cv_Ru_isFixed hq0 (by decide) rfl rfl rfl (Nat.le_of_ble_eq_true rfl) (c_Ru_isFixed (J := J) (q := q) hq0 hq1 hq2) (d2 := d - 1) (by omega) (Nat.le_of_eq (Nat.zero_add _)) (Nat.le_of_eq (Nat.zero_add _)) ?_
  refine q_bif_eq (tgt := 36) (pc2 := 7) d_Sp_spellAnswer_4 rfl rfl (fun c1 => ?_) (fun c1 => ?_)
  · exfalso
    have hq1f : ¬ (J q 1).toInt = -1 := by rw [hof0 q 1 (by omega) (by omega), hf, nI_toInt (by omega)]; omega
    omega
  · refine r_aload_n (x := some 740) (pc2 := 8) d_Sp_spellAnswer_7 rfl rfl ?_
    refine r_aload_n (x := some 740) (pc2 := 9) d_Sp_spellAnswer_8 rfl rfl ?_
    refine q_getI (x := nI W.length) (pc2 := 12) d_Sp_spellAnswer_9 rfl k_Sp_21 (by decide) (sh_740 hS) hsz ?_
    refine r_bipush (v := nI 58) (pc2 := 14) d_Sp_spellAnswer_12 rfl (by decide) ?_
    refine r_callv (M2 := mi_Sp_put) (pc2 := 17) d_Sp_spellAnswer_14 rfl k_Sp_74 cm_Sp_put cv_Sp_put (sh_740 hS) (by decide) rfl rfl rfl (Nat.le_of_ble_eq_true rfl) (c_Sp_put (J := J) hS hR (a := W.length) (v := nI 58) (by omega)) (d2 := d - 1) (by omega) (Nat.le_of_eq (Nat.zero_add _)) (Nat.le_of_eq (Nat.zero_add _)) (fun r2 h2 hq2 => ?_)
    obtain ⟨rfl, I2, rfl, hI2⟩ := hq2
    have hwI2 := hw.put (s := W.length) (by omega) hI2
    have hofI2 : ∀ a j, a ≠ 740 → a ≠ 743 → I2 a j = J a j := fun a j q1 q2 => (rd_ne hI2 q2).trans (hof0 a j q1 q2)
    have hzI2 : I2 740 3 = nI (W.length) := (rd_ne hI2 (by decide)).trans (hsz)
    have hlnI2 := len_ch (l := W) (v := nI 58)
    refine r_aload_n (x := some 740) (pc2 := 18) d_Sp_spellAnswer_17 rfl rfl ?_
    refine r_aload_n (x := some 740) (pc2 := 19) d_Sp_spellAnswer_18 rfl rfl ?_
    refine r_aload_n (x := some 740) (pc2 := 20) d_Sp_spellAnswer_19 rfl rfl ?_
    refine q_getI (x := nI W.length) (pc2 := 23) d_Sp_spellAnswer_20 rfl k_Sp_21 (by decide) (sh_740 hS) hzI2 ?_
    refine r_iconst (v := nI 1) (pc2 := 24) d_Sp_spellAnswer_23 rfl (by decide) ?_
    refine q_iaddN (pc2 := 25) d_Sp_spellAnswer_24 rfl ?_
    refine r_aload_n (x := some q) (pc2 := 26) d_Sp_spellAnswer_25 rfl rfl ?_
    refine q_getI (x := nI v) (pc2 := 29) d_Sp_spellAnswer_26 rfl k_Sp_92 (by decide) hq0 ((hofI2 q 1 (by omega) (by omega)).trans hf) ?_
    refine r_callv (M2 := mi_Sp_putNumber) (pc2 := 32) d_Sp_spellAnswer_29 rfl k_Sp_85 cm_Sp_putNumber cv_Sp_putNumber (sh_740 hS) (by decide) rfl rfl rfl (Nat.le_of_ble_eq_true rfl) (c_Sp_putNumber (J := I2) hS hR (s := W.length + 1) (v := v) (by omega) (by omega) (by omega) (by omega)) (d2 := d - 1) (by omega) (Nat.le_of_eq (Nat.zero_add _)) (Nat.le_of_eq (Nat.zero_add _)) (fun r2 h2 hq2 => ?_)
    obtain ⟨rfl, I3, rfl, hn1I3, hn2I3⟩ := hq2
    have hwI3 := WT.num (v := v) (by omega) hwI2 (s := W.length + 1) (by omega) hn1I3 hn2I3
    have hofI3 : ∀ a j, a ≠ 740 → a ≠ 743 → I3 a j = J a j := fun a j q1 q2 => (hn2I3 a j (by omega)).trans (hofI2 a j q1 q2)
    have hzI3 : I3 740 3 = nI (W.length) := (hn2I3 _ _ (by omega)).trans (hzI2)
    have hlnI3 := len_num (l := (W ++ [nI 58])) (v := v) (by omega)
    refine q_putI (pc2 := 35) d_Sp_spellAnswer_32 rfl k_Sp_21 (Or.inl rfl) (sh_740 hS) (Or.inl rfl) (fun I4 hI4 => ?_)
    have hwI4 := hwI3.c (fun j => rd_ne hI4 (by decide))
    have hofI4 : ∀ a j, a ≠ 740 → a ≠ 743 → I4 a j = J a j := fun a j q1 q2 => (rd_ne hI4 q1).trans (hofI3 a j q1 q2)
    refine Run.ret none d_Sp_spellAnswer_35 rfl ?_
    exact ⟨rfl, _, rfl, hofI4, (rd_eq hI4).trans (by congr 1; simp only [List.length_append, List.length_cons, List.length_nil, (spn_g (show v < 1000000 by omega)).1]; omega), by have e := hwI4; simp only [List.append_assoc, List.cons_append, List.nil_append] at e; exact e⟩
theorem k_Sp_spellAnswer_S {d : Nat} {J : Nat → Nat → Int32} {R : Nat → Nat → Option Nat} {L : Nat → Nat → Int64} {sh : Nat → Nat × Nat} {N : Nat} (hS : ShOK sh) (hR : RfOK R) {q : Nat} (hq0 : sh q = (6, 0)) (hq1 : sh (q + 1) = (12, 3)) (hq2 : R q 2 = some (q + 1)) (hqn : q < 740 ∧ q + 1 < 740) {W : List Int32} (hW : W.length ≤ 250) (hw : WT J W) (hsz : J 740 3 = nI W.length) {a b c : Nat} (ha9 : a ≤ 333) (hb9 : b ≤ 333) (hc9 : c ≤ 333) (hf : J q 1 = -1) (ha : J (q + 1) 0 = nI a) (hb : J (q + 1) 1 = nI b) (hc : J (q + 1) 2 = nI c) (hd : 3 ≤ d) : Mt mi_Sp_spellAnswer d 0 0 [.ref 740, .ref q] (J, R, L, sh, N) (fun x h2 => x = none ∧ ∃ K, h2 = (K, R, L, sh, N) ∧ (∀ a j, a ≠ 740 → a ≠ 743 → K a j = J a j) ∧ K 740 3 = nI (W ++ nI 37 :: (spn a ++ nI 44 :: (spn b ++ nI 44 :: spn c))).length ∧ WT K (W ++ nI 37 :: (spn a ++ nI 44 :: (spn b ++ nI 44 :: spn c)))) := by
  have h3 : ∀ x, x ≤ 333 → dgN x ≤ 3 := fun x hx => by unfold dgN; (repeat' split) <;> omega
  have hda := h3 a ha9
  have hdb := h3 b hb9
  have hdc := h3 c hc9
  refine Mt.of pn_Sp (Nat.le_of_ble_eq_true rfl) ?_
  show Run mi_Sp_spellAnswer d 0 0 0 [(0, .ref 740), (1, .ref q)] [] (J, R, L, sh, N) _
  have hof0 : ∀ a j, a ≠ 740 → a ≠ 743 → J a j = J a j := fun _ _ _ _ => rfl
  refine r_aload_n (x := some q) (pc2 := 1) d_Sp_spellAnswer_0 rfl rfl ?_
  refine q_callv (M2 := mi_Ru_isFixed) (pc2 := 4) d_Sp_spellAnswer_1 rfl k_Sp_88 cm_Ru_isFixed cv_Ru_isFixed hq0 (by decide) rfl rfl rfl (Nat.le_of_ble_eq_true rfl) (c_Ru_isFixed (J := J) (q := q) hq0 hq1 hq2) (d2 := d - 1) (by omega) (Nat.le_of_eq (Nat.zero_add _)) (Nat.le_of_eq (Nat.zero_add _)) ?_
  refine q_bif_eq (tgt := 36) (pc2 := 7) d_Sp_spellAnswer_4 rfl rfl (fun c1 => ?_) (fun c1 => ?_)
  · refine r_iconst (v := nI 0) (pc2 := 37) d_Sp_spellAnswer_36 rfl (by decide) ?_
    refine r_istore_n (pc2 := 38) d_Sp_spellAnswer_37 rfl rfl (Nat.le_of_ble_eq_true rfl) ?_
    refine r_iload_n (pc2 := 39) d_Sp_spellAnswer_38 rfl rfl ?_
    refine r_iconst (v := nI 3) (pc2 := 40) d_Sp_spellAnswer_39 rfl (by decide) ?_
    refine q_icmp_ge (tgt := 88) (A := (0 : Int)) (B := (3 : Int)) (pc2 := 43) d_Sp_spellAnswer_40 rfl rfl (nI_toInt (by omega)) (nI_toInt (by omega)) (fun c2 => ?_) (fun c2 => ?_)
    · exfalso; omega
    refine r_aload_n (x := some 740) (pc2 := 44) d_Sp_spellAnswer_43 rfl rfl ?_
    refine r_aload_n (x := some 740) (pc2 := 45) d_Sp_spellAnswer_44 rfl rfl ?_
    refine q_getI (x := nI W.length) (pc2 := 48) d_Sp_spellAnswer_45 rfl k_Sp_21 (by decide) (sh_740 hS) hsz ?_
    refine r_iload_n (pc2 := 49) d_Sp_spellAnswer_48 rfl rfl ?_
    refine q_if_ne (tgt := 57) (A := (0 : Int)) (pc2 := 52) d_Sp_spellAnswer_49 rfl rfl (nI_toInt (by omega)) (fun c3 => ?_) (fun c3 => ?_)
    · exfalso; omega
    refine r_bipush (v := nI 37) (pc2 := 54) d_Sp_spellAnswer_52 rfl (by decide) ?_
    refine r_goto (tgt := 59) d_Sp_spellAnswer_54 rfl ?_
    refine r_callv (M2 := mi_Sp_put) (pc2 := 62) d_Sp_spellAnswer_59 rfl k_Sp_74 cm_Sp_put cv_Sp_put (sh_740 hS) (by decide) rfl rfl rfl (Nat.le_of_ble_eq_true rfl) (c_Sp_put (J := J) hS hR (a := W.length) (v := nI 37) (by omega)) (d2 := d - 1) (by omega) (Nat.le_of_eq (Nat.zero_add _)) (Nat.le_of_eq (Nat.zero_add _)) (fun r2 h2 hq2 => ?_)
    obtain ⟨rfl, I4, rfl, hI4⟩ := hq2
    have hwI4 := hw.put (s := W.length) (by omega) hI4
    have hofI4 : ∀ a j, a ≠ 740 → a ≠ 743 → I4 a j = J a j := fun a j q1 q2 => (rd_ne hI4 q2).trans (hof0 a j q1 q2)
    have hzI4 : I4 740 3 = nI (W.length) := (rd_ne hI4 (by decide)).trans (hsz)
    have hlnI4 := len_ch (l := W) (v := nI 37)
    refine r_aload_n (x := some 740) (pc2 := 63) d_Sp_spellAnswer_62 rfl rfl ?_
    refine r_aload_n (x := some 740) (pc2 := 64) d_Sp_spellAnswer_63 rfl rfl ?_
    refine r_aload_n (x := some 740) (pc2 := 65) d_Sp_spellAnswer_64 rfl rfl ?_
    refine q_getI (x := nI W.length) (pc2 := 68) d_Sp_spellAnswer_65 rfl k_Sp_21 (by decide) (sh_740 hS) hzI4 ?_
    refine r_iconst (v := nI 1) (pc2 := 69) d_Sp_spellAnswer_68 rfl (by decide) ?_
    refine q_iaddN (pc2 := 70) d_Sp_spellAnswer_69 rfl ?_
    refine r_aload_n (x := some q) (pc2 := 71) d_Sp_spellAnswer_70 rfl rfl ?_
    refine q_getR (x := some (q + 1)) (pc2 := 74) d_Sp_spellAnswer_71 rfl k_Sp_95 rfl hq0 hq2 ?_
    refine r_iload_n (pc2 := 75) d_Sp_spellAnswer_74 rfl rfl ?_
    refine q_iaload (q := 0) (x := nI a) (pc2 := 76) d_Sp_spellAnswer_75 rfl hq1 (nI_toInt (by omega)) (by omega) ((hofI4 (q + 1) 0 (by omega) (by omega)).trans ha) ?_
    refine r_callv (M2 := mi_Sp_putNumber) (pc2 := 79) d_Sp_spellAnswer_76 rfl k_Sp_85 cm_Sp_putNumber cv_Sp_putNumber (sh_740 hS) (by decide) rfl rfl rfl (Nat.le_of_ble_eq_true rfl) (c_Sp_putNumber (J := I4) hS hR (s := W.length + 1) (v := a) (by omega) (by omega) (by omega) (by omega)) (d2 := d - 1) (by omega) (Nat.le_of_eq (Nat.zero_add _)) (Nat.le_of_eq (Nat.zero_add _)) (fun r2 h2 hq2 => ?_)
    obtain ⟨rfl, I5, rfl, hn1I5, hn2I5⟩ := hq2
    have hwI5 := WT.num (v := a) (by omega) hwI4 (s := W.length + 1) (by omega) hn1I5 hn2I5
    have hofI5 : ∀ a j, a ≠ 740 → a ≠ 743 → I5 a j = J a j := fun a j q1 q2 => (hn2I5 a j (by omega)).trans (hofI4 a j q1 q2)
    have hzI5 : I5 740 3 = nI (W.length) := (hn2I5 _ _ (by omega)).trans (hzI4)
    have hlnI5 := len_num (l := (W ++ [nI 37])) (v := a) (by omega)
    refine q_putI (pc2 := 82) d_Sp_spellAnswer_79 rfl k_Sp_21 (Or.inl rfl) (sh_740 hS) (Or.inl rfl) (fun I6 hI6 => ?_)
    have hwI6 := hwI5.c (fun j => rd_ne hI6 (by decide))
    have hofI6 : ∀ a j, a ≠ 740 → a ≠ 743 → I6 a j = J a j := fun a j q1 q2 => (rd_ne hI6 q1).trans (hofI5 a j q1 q2)
    refine q_iinc (b := 1) (pc2 := 85) d_Sp_spellAnswer_82 rfl rfl (by decide) (Nat.le_of_ble_eq_true rfl) ?_
    refine r_goto (tgt := 38) d_Sp_spellAnswer_85 rfl ?_
    refine r_iload_n (pc2 := 39) d_Sp_spellAnswer_38 rfl rfl ?_
    refine r_iconst (v := nI 3) (pc2 := 40) d_Sp_spellAnswer_39 rfl (by decide) ?_
    refine q_icmp_ge (tgt := 88) (A := (1 : Int)) (B := (3 : Int)) (pc2 := 43) d_Sp_spellAnswer_40 rfl rfl (nI_toInt (by omega)) (nI_toInt (by omega)) (fun c7 => ?_) (fun c7 => ?_)
    · exfalso; omega
    refine r_aload_n (x := some 740) (pc2 := 44) d_Sp_spellAnswer_43 rfl rfl ?_
    refine r_aload_n (x := some 740) (pc2 := 45) d_Sp_spellAnswer_44 rfl rfl ?_
    refine q_getI (x := nI (W.length + 1 + dgN a)) (pc2 := 48) d_Sp_spellAnswer_45 rfl k_Sp_21 (by decide) (sh_740 hS) (rd_eq hI6) ?_
    refine r_iload_n (pc2 := 49) d_Sp_spellAnswer_48 rfl rfl ?_
    refine q_if_ne (tgt := 57) (A := (1 : Int)) (pc2 := 52) d_Sp_spellAnswer_49 rfl rfl (nI_toInt (by omega)) (fun c8 => ?_) (fun c8 => ?_)
    rotate_left
    · exfalso; omega
    refine r_bipush (v := nI 44) (pc2 := 59) d_Sp_spellAnswer_57 rfl (by decide) ?_
    refine r_callv (M2 := mi_Sp_put) (pc2 := 62) d_Sp_spellAnswer_59 rfl k_Sp_74 cm_Sp_put cv_Sp_put (sh_740 hS) (by decide) rfl rfl rfl (Nat.le_of_ble_eq_true rfl) (c_Sp_put (J := I6) hS hR (a := W.length + 1 + dgN a) (v := nI 44) (by omega)) (d2 := d - 1) (by omega) (Nat.le_of_eq (Nat.zero_add _)) (Nat.le_of_eq (Nat.zero_add _)) (fun r2 h2 hq2 => ?_)
    obtain ⟨rfl, I9, rfl, hI9⟩ := hq2
    have hwI9 := hwI6.put (s := W.length + 1 + dgN a) (by omega) hI9
    have hofI9 : ∀ a j, a ≠ 740 → a ≠ 743 → I9 a j = J a j := fun a j q1 q2 => (rd_ne hI9 q2).trans (hofI6 a j q1 q2)
    have hzI9 : I9 740 3 = nI (W.length + 1 + dgN a) := (rd_ne hI9 (by decide)).trans (rd_eq hI6)
    have hlnI9 := len_ch (l := ((W ++ [nI 37]) ++ spn a)) (v := nI 44)
    refine r_aload_n (x := some 740) (pc2 := 63) d_Sp_spellAnswer_62 rfl rfl ?_
    refine r_aload_n (x := some 740) (pc2 := 64) d_Sp_spellAnswer_63 rfl rfl ?_
    refine r_aload_n (x := some 740) (pc2 := 65) d_Sp_spellAnswer_64 rfl rfl ?_
    refine q_getI (x := nI (W.length + 1 + dgN a)) (pc2 := 68) d_Sp_spellAnswer_65 rfl k_Sp_21 (by decide) (sh_740 hS) hzI9 ?_
    refine r_iconst (v := nI 1) (pc2 := 69) d_Sp_spellAnswer_68 rfl (by decide) ?_
    refine q_iaddN (pc2 := 70) d_Sp_spellAnswer_69 rfl ?_
    refine r_aload_n (x := some q) (pc2 := 71) d_Sp_spellAnswer_70 rfl rfl ?_
    refine q_getR (x := some (q + 1)) (pc2 := 74) d_Sp_spellAnswer_71 rfl k_Sp_95 rfl hq0 hq2 ?_
    refine r_iload_n (pc2 := 75) d_Sp_spellAnswer_74 rfl rfl ?_
    refine q_iaload (q := 1) (x := nI b) (pc2 := 76) d_Sp_spellAnswer_75 rfl hq1 (nI_toInt (by omega)) (by omega) ((hofI9 (q + 1) 1 (by omega) (by omega)).trans hb) ?_
    refine r_callv (M2 := mi_Sp_putNumber) (pc2 := 79) d_Sp_spellAnswer_76 rfl k_Sp_85 cm_Sp_putNumber cv_Sp_putNumber (sh_740 hS) (by decide) rfl rfl rfl (Nat.le_of_ble_eq_true rfl) (c_Sp_putNumber (J := I9) hS hR (s := W.length + 1 + dgN a + 1) (v := b) (by omega) (by omega) (by omega) (by omega)) (d2 := d - 1) (by omega) (Nat.le_of_eq (Nat.zero_add _)) (Nat.le_of_eq (Nat.zero_add _)) (fun r2 h2 hq2 => ?_)
    obtain ⟨rfl, I10, rfl, hn1I10, hn2I10⟩ := hq2
    have hwI10 := WT.num (v := b) (by omega) hwI9 (s := W.length + 1 + dgN a + 1) (by omega) hn1I10 hn2I10
    have hofI10 : ∀ a j, a ≠ 740 → a ≠ 743 → I10 a j = J a j := fun a j q1 q2 => (hn2I10 a j (by omega)).trans (hofI9 a j q1 q2)
    have hzI10 : I10 740 3 = nI (W.length + 1 + dgN a) := (hn2I10 _ _ (by omega)).trans (hzI9)
    have hlnI10 := len_num (l := (((W ++ [nI 37]) ++ spn a) ++ [nI 44])) (v := b) (by omega)
    refine q_putI (pc2 := 82) d_Sp_spellAnswer_79 rfl k_Sp_21 (Or.inl rfl) (sh_740 hS) (Or.inl rfl) (fun I11 hI11 => ?_)
    have hwI11 := hwI10.c (fun j => rd_ne hI11 (by decide))
    have hofI11 : ∀ a j, a ≠ 740 → a ≠ 743 → I11 a j = J a j := fun a j q1 q2 => (rd_ne hI11 q1).trans (hofI10 a j q1 q2)
    refine q_iinc (b := 1) (pc2 := 85) d_Sp_spellAnswer_82 rfl rfl (by decide) (Nat.le_of_ble_eq_true rfl) ?_
    refine r_goto (tgt := 38) d_Sp_spellAnswer_85 rfl ?_
    refine r_iload_n (pc2 := 39) d_Sp_spellAnswer_38 rfl rfl ?_
    refine r_iconst (v := nI 3) (pc2 := 40) d_Sp_spellAnswer_39 rfl (by decide) ?_
    refine q_icmp_ge (tgt := 88) (A := (2 : Int)) (B := (3 : Int)) (pc2 := 43) d_Sp_spellAnswer_40 rfl rfl (nI_toInt (by omega)) (nI_toInt (by omega)) (fun c12 => ?_) (fun c12 => ?_)
    · exfalso; omega
    refine r_aload_n (x := some 740) (pc2 := 44) d_Sp_spellAnswer_43 rfl rfl ?_
    refine r_aload_n (x := some 740) (pc2 := 45) d_Sp_spellAnswer_44 rfl rfl ?_
    refine q_getI (x := nI (W.length + 1 + dgN a + 1 + dgN b)) (pc2 := 48) d_Sp_spellAnswer_45 rfl k_Sp_21 (by decide) (sh_740 hS) (rd_eq hI11) ?_
    refine r_iload_n (pc2 := 49) d_Sp_spellAnswer_48 rfl rfl ?_
    refine q_if_ne (tgt := 57) (A := (2 : Int)) (pc2 := 52) d_Sp_spellAnswer_49 rfl rfl (nI_toInt (by omega)) (fun c13 => ?_) (fun c13 => ?_)
    rotate_left
    · exfalso; omega
    refine r_bipush (v := nI 44) (pc2 := 59) d_Sp_spellAnswer_57 rfl (by decide) ?_
    refine r_callv (M2 := mi_Sp_put) (pc2 := 62) d_Sp_spellAnswer_59 rfl k_Sp_74 cm_Sp_put cv_Sp_put (sh_740 hS) (by decide) rfl rfl rfl (Nat.le_of_ble_eq_true rfl) (c_Sp_put (J := I11) hS hR (a := W.length + 1 + dgN a + 1 + dgN b) (v := nI 44) (by omega)) (d2 := d - 1) (by omega) (Nat.le_of_eq (Nat.zero_add _)) (Nat.le_of_eq (Nat.zero_add _)) (fun r2 h2 hq2 => ?_)
    obtain ⟨rfl, I14, rfl, hI14⟩ := hq2
    have hwI14 := hwI11.put (s := W.length + 1 + dgN a + 1 + dgN b) (by omega) hI14
    have hofI14 : ∀ a j, a ≠ 740 → a ≠ 743 → I14 a j = J a j := fun a j q1 q2 => (rd_ne hI14 q2).trans (hofI11 a j q1 q2)
    have hzI14 : I14 740 3 = nI (W.length + 1 + dgN a + 1 + dgN b) := (rd_ne hI14 (by decide)).trans (rd_eq hI11)
    have hlnI14 := len_ch (l := ((((W ++ [nI 37]) ++ spn a) ++ [nI 44]) ++ spn b)) (v := nI 44)
    refine r_aload_n (x := some 740) (pc2 := 63) d_Sp_spellAnswer_62 rfl rfl ?_
    refine r_aload_n (x := some 740) (pc2 := 64) d_Sp_spellAnswer_63 rfl rfl ?_
    refine r_aload_n (x := some 740) (pc2 := 65) d_Sp_spellAnswer_64 rfl rfl ?_
    refine q_getI (x := nI (W.length + 1 + dgN a + 1 + dgN b)) (pc2 := 68) d_Sp_spellAnswer_65 rfl k_Sp_21 (by decide) (sh_740 hS) hzI14 ?_
    refine r_iconst (v := nI 1) (pc2 := 69) d_Sp_spellAnswer_68 rfl (by decide) ?_
    refine q_iaddN (pc2 := 70) d_Sp_spellAnswer_69 rfl ?_
    refine r_aload_n (x := some q) (pc2 := 71) d_Sp_spellAnswer_70 rfl rfl ?_
    refine q_getR (x := some (q + 1)) (pc2 := 74) d_Sp_spellAnswer_71 rfl k_Sp_95 rfl hq0 hq2 ?_
    refine r_iload_n (pc2 := 75) d_Sp_spellAnswer_74 rfl rfl ?_
    refine q_iaload (q := 2) (x := nI c) (pc2 := 76) d_Sp_spellAnswer_75 rfl hq1 (nI_toInt (by omega)) (by omega) ((hofI14 (q + 1) 2 (by omega) (by omega)).trans hc) ?_
    refine r_callv (M2 := mi_Sp_putNumber) (pc2 := 79) d_Sp_spellAnswer_76 rfl k_Sp_85 cm_Sp_putNumber cv_Sp_putNumber (sh_740 hS) (by decide) rfl rfl rfl (Nat.le_of_ble_eq_true rfl) (c_Sp_putNumber (J := I14) hS hR (s := W.length + 1 + dgN a + 1 + dgN b + 1) (v := c) (by omega) (by omega) (by omega) (by omega)) (d2 := d - 1) (by omega) (Nat.le_of_eq (Nat.zero_add _)) (Nat.le_of_eq (Nat.zero_add _)) (fun r2 h2 hq2 => ?_)
    obtain ⟨rfl, I15, rfl, hn1I15, hn2I15⟩ := hq2
    have hwI15 := WT.num (v := c) (by omega) hwI14 (s := W.length + 1 + dgN a + 1 + dgN b + 1) (by omega) hn1I15 hn2I15
    have hofI15 : ∀ a j, a ≠ 740 → a ≠ 743 → I15 a j = J a j := fun a j q1 q2 => (hn2I15 a j (by omega)).trans (hofI14 a j q1 q2)
    have hzI15 : I15 740 3 = nI (W.length + 1 + dgN a + 1 + dgN b) := (hn2I15 _ _ (by omega)).trans (hzI14)
    have hlnI15 := len_num (l := (((((W ++ [nI 37]) ++ spn a) ++ [nI 44]) ++ spn b) ++ [nI 44])) (v := c) (by omega)
    refine q_putI (pc2 := 82) d_Sp_spellAnswer_79 rfl k_Sp_21 (Or.inl rfl) (sh_740 hS) (Or.inl rfl) (fun I16 hI16 => ?_)
    have hwI16 := hwI15.c (fun j => rd_ne hI16 (by decide))
    have hofI16 : ∀ a j, a ≠ 740 → a ≠ 743 → I16 a j = J a j := fun a j q1 q2 => (rd_ne hI16 q1).trans (hofI15 a j q1 q2)
    refine q_iinc (b := 1) (pc2 := 85) d_Sp_spellAnswer_82 rfl rfl (by decide) (Nat.le_of_ble_eq_true rfl) ?_
    refine r_goto (tgt := 38) d_Sp_spellAnswer_85 rfl ?_
    refine r_iload_n (pc2 := 39) d_Sp_spellAnswer_38 rfl rfl ?_
    refine r_iconst (v := nI 3) (pc2 := 40) d_Sp_spellAnswer_39 rfl (by decide) ?_
    refine q_icmp_ge (tgt := 88) (A := (3 : Int)) (B := (3 : Int)) (pc2 := 43) d_Sp_spellAnswer_40 rfl rfl (nI_toInt (by omega)) (nI_toInt (by omega)) (fun c17 => ?_) (fun c17 => ?_)
    rotate_left
    · exfalso; omega
    refine Run.ret none d_Sp_spellAnswer_88 rfl ?_
    exact ⟨rfl, _, rfl, hofI16, (rd_eq hI16).trans (by congr 1; simp only [List.length_append, List.length_cons, List.length_nil, (spn_g (show a < 1000000 by omega)).1, (spn_g (show b < 1000000 by omega)).1, (spn_g (show c < 1000000 by omega)).1]; omega), by have e := hwI16; simp only [List.append_assoc, List.cons_append, List.nil_append] at e; exact e⟩
  · have hq1f : (J q 1).toInt = -1 := by rw [hof0 q 1 (by omega) (by omega), hf]; decide
    exact absurd hq1f (by assumption)
