/-! THE SPELLER: spell -/
theorem k_Sp_spell_F {d : Nat} {J : Nat → Nat → Int32} {R : Nat → Nat → Option Nat} {L : Nat → Nat → Int64} {sh : Nat → Nat × Nat} {N : Nat} (hS : ShOK sh) (hR : RfOK R) {q c : Nat} {ns : List Nd} (hq0 : sh q = (6, 0)) (hq1 : sh (q + 1) = (12, 3)) (hq2 : R q 2 = some (q + 1)) (hqn : q < 740 ∧ q + 1 < 740) (hcr : R q 0 = some c) (hC : CoK c ns J R sh) (hc : 781 ≤ c) (hv : NV ns) (hl : ns.length < 250) (h0 : 0 < ns.length) (hpf : PF ns 0 (ns.length - 1)) (hln : ln ns (ns.length - 1) ≤ 250) {v : Nat} (hv9 : v ≤ 9) (hf : J q 1 = nI v) (hd : 10 ≤ d) : Mt mi_Sp_spell d 0 0 [.ref 740, .ref q] (J, R, L, sh, N) (fun x h2 => x = none ∧ ∃ K, h2 = (K, R, L, sh, N) ∧ (∀ a j, a < 740 ∨ 744 ≤ a → K a j = J a j) ∧ K 740 3 = nI (tx ns (ns.length - 1) ++ nI 58 :: spn v).length ∧ WT K (tx ns (ns.length - 1) ++ nI 58 :: spn v)) := by
  refine Mt.of pn_Sp (Nat.le_of_ble_eq_true rfl) ?_
  show Run mi_Sp_spell d 0 0 0 [(0, .ref 740), (1, .ref q)] [] (J, R, L, sh, N) _
  refine r_aload_n (x := some 740) (pc2 := 1) d_Sp_spell_0 rfl rfl ?_
  refine r_iconst (v := nI 0) (pc2 := 2) d_Sp_spell_1 rfl (by decide) ?_
  refine q_putI (pc2 := 5) d_Sp_spell_2 rfl k_Sp_21 (Or.inl rfl) (sh_740 hS) (Or.inl rfl) (fun I1 hI1 => ?_)
  have hC := hC.c hc (fun a j q1 => rd_ne hI1 (by omega))
  have hf1 : ∀ a j, a < 740 ∨ 744 ≤ a → I1 a j = J a j := fun a j q1 => rd_ne hI1 (by omega)
  have htl := tx_len hv (ns.length - 1) (by omega)
  refine r_aload_n (x := some q) (pc2 := 6) d_Sp_spell_5 rfl rfl ?_
  refine q_getR (x := some c) (pc2 := 9) d_Sp_spell_6 rfl k_Sp_25 rfl hq0 hcr ?_
  refine r_astore_n (x := some c) (pc2 := 10) d_Sp_spell_9 rfl rfl (Nat.le_of_ble_eq_true rfl) ?_
  refine r_aload_n (x := some c) (pc2 := 11) d_Sp_spell_10 rfl rfl ?_
  refine r_ifnull (x := some c) (tgt := 31) (pc2 := 14) d_Sp_spell_11 rfl rfl (fun c2 => ?_) (fun _ c2 => ?_)
  · cases c2
  ·
    refine r_aload_n (x := some c) (pc2 := 15) d_Sp_spell_14 rfl rfl ?_
    refine q_callv (M2 := mi_Co_root) (pc2 := 18) d_Sp_spell_15 rfl k_Sp_31 cm_Co_root cv_Co_root hC.1.1 (by decide) rfl rfl rfl (Nat.le_of_ble_eq_true rfl) (k_Co_root (J := I1) hS hR hC hl h0) (d2 := d - 1) (by omega) (Nat.le_of_eq (Nat.zero_add _)) (Nat.le_of_eq (Nat.zero_add _)) ?_
    refine q_if_lt (tgt := 31) (A := ((ns.length - 1 : Nat) : Int)) (pc2 := 21) d_Sp_spell_18 rfl rfl (nI_toInt (by omega)) (fun c3 => ?_) (fun c3 => ?_)
    · exfalso; omega
    refine r_aload_n (x := some c) (pc2 := 22) d_Sp_spell_21 rfl rfl ?_
    refine q_callv (M2 := mi_Co_root) (pc2 := 25) d_Sp_spell_22 rfl k_Sp_31 cm_Co_root cv_Co_root hC.1.1 (by decide) rfl rfl rfl (Nat.le_of_ble_eq_true rfl) (k_Co_root (J := I1) hS hR hC hl h0) (d2 := d - 1) (by omega) (Nat.le_of_eq (Nat.zero_add _)) (Nat.le_of_eq (Nat.zero_add _)) ?_
    refine r_sipush (v := nI 250) (pc2 := 28) d_Sp_spell_25 rfl (by decide) ?_
    refine q_icmp_lt (tgt := 32) (A := ((ns.length - 1 : Nat) : Int)) (B := (250 : Int)) (pc2 := 31) d_Sp_spell_28 rfl rfl (nI_toInt (by omega)) (nI_toInt (by omega)) (fun c4 => ?_) (fun c4 => ?_)
    · refine r_aload_n (x := some 740) (pc2 := 33) d_Sp_spell_32 rfl rfl ?_
      refine r_aload_n (x := some c) (pc2 := 34) d_Sp_spell_33 rfl rfl ?_
      refine r_callv (M2 := mi_Sp_measure) (pc2 := 37) d_Sp_spell_34 rfl k_Sp_37 cm_Sp_measure cv_Sp_measure (sh_740 hS) (by decide) rfl rfl rfl (Nat.le_of_ble_eq_true rfl) (k_Sp_measure (J := I1) hS hR hC hv hl h0 hc (by omega)) (d2 := d - 1) (by omega) (Nat.le_of_eq (Nat.zero_add _)) (Nat.le_of_eq (Nat.zero_add _)) (fun r2 h2 hq2 => ?_)
      obtain ⟨rfl, K2, rfl, hL2, hf2⟩ := hq2
      have hC := hC.c hc (fun a j q1 => hf2 a j (by omega))
      refine r_aload_n (x := some 740) (pc2 := 38) d_Sp_spell_37 rfl rfl ?_
      refine q_getR (x := some 742) (pc2 := 41) d_Sp_spell_38 rfl k_Sp_15 rfl (sh_740 hS) (rf_740_1 hR) ?_
      refine r_aload_n (x := some c) (pc2 := 42) d_Sp_spell_41 rfl rfl ?_
      refine q_callv (M2 := mi_Co_root) (pc2 := 45) d_Sp_spell_42 rfl k_Sp_31 cm_Co_root cv_Co_root hC.1.1 (by decide) rfl rfl rfl (Nat.le_of_ble_eq_true rfl) (k_Co_root (J := K2) hS hR hC hl h0) (d2 := d - 1) (by omega) (Nat.le_of_eq (Nat.zero_add _)) (Nat.le_of_eq (Nat.zero_add _)) ?_
      refine r_iconst (v := nI 0) (pc2 := 46) d_Sp_spell_45 rfl (by decide) ?_
      refine q_iastore (q := ns.length - 1) (pc2 := 47) d_Sp_spell_46 rfl (sh_742 hS) (nI_toInt (by omega)) (by omega) (fun I5 hI5 => ?_)
      have hC := hC.c hc (fun a j q1 => rd_ne hI5 (by omega))
      have hL3 : ∀ j, j < ns.length → I5 741 j = nI (ln ns j) := fun j hj => (rd_ne hI5 (by decide)).trans (hL2 j hj)
      have hs3 : I5 742 (ns.length - 1) = nI 0 := rd_eq hI5
      have hf3 : ∀ a j, a < 740 ∨ 744 ≤ a → I5 a j = J a j := fun a j q1 => (rd_ne hI5 (by omega)).trans ((hf2 a j (by omega)).trans (hf1 a j q1))
      refine r_aload_n (x := some c) (pc2 := 48) d_Sp_spell_47 rfl rfl ?_
      refine q_callv (M2 := mi_Co_root) (pc2 := 51) d_Sp_spell_48 rfl k_Sp_31 cm_Co_root cv_Co_root hC.1.1 (by decide) rfl rfl rfl (Nat.le_of_ble_eq_true rfl) (k_Co_root (J := I5) hS hR hC hl h0) (d2 := d - 1) (by omega) (Nat.le_of_eq (Nat.zero_add _)) (Nat.le_of_eq (Nat.zero_add _)) ?_
      refine r_istore_n (pc2 := 52) d_Sp_spell_51 rfl rfl (Nat.le_of_ble_eq_true rfl) ?_
      rw [show nI (ns.length - 1) = nI ns.length - nI 1 from (eq_nI (by rw [nI_sub_toInt (by omega) (by omega)]; omega)).symm]
      refine Run.sub (l2 := [(0, .ref 740), (1, .ref q), (2, .ref c), (3, .int (nI ns.length - nI 1))]) ⟨rfl, rfl, rfl, rfl, trivial⟩ ?_
      refine l_Sp_spell (W := tx ns (ns.length - 1)) hS hR hC hc hv hl (by omega) hL3 (by omega) (hk := fun J4 hw4 hf4 => ?_) _ ns.length [ns.length - 1] I5 rfl ⟨by omega, 0, Nat.zero_le _, hpf, rfl⟩ ⟨fun j hj => ⟨0, by rw [List.mem_singleton.mp hj]; exact hs3, by rw [List.mem_singleton.mp hj]; exact CS.rf⟩, fun p hp => Or.inr ⟨ns.length - 1, List.mem_singleton.mpr rfl, 0, hs3, by omega, by omega, by omega⟩⟩ (fun _ _ _ _ => rfl) (Nat.le_refl _)
      have hC := hC.c hc (fun a j q1 => hf4 a j (by omega) (by omega))
      refine r_aload_n (x := some 740) (pc2 := 69) d_Sp_spell_68 rfl rfl ?_
      refine r_aload_n (x := some 740) (pc2 := 70) d_Sp_spell_69 rfl rfl ?_
      refine q_getR (x := some 741) (pc2 := 73) d_Sp_spell_70 rfl k_Sp_9 rfl (sh_740 hS) (rf_740_0 hR) ?_
      refine r_aload_n (x := some c) (pc2 := 74) d_Sp_spell_73 rfl rfl ?_
      refine q_callv (M2 := mi_Co_root) (pc2 := 77) d_Sp_spell_74 rfl k_Sp_31 cm_Co_root cv_Co_root hC.1.1 (by decide) rfl rfl rfl (Nat.le_of_ble_eq_true rfl) (k_Co_root (J := J4) hS hR hC hl h0) (d2 := d - 1) (by omega) (Nat.le_of_eq (Nat.zero_add _)) (Nat.le_of_eq (Nat.zero_add _)) ?_
      refine q_iaload (q := ns.length - 1) (x := nI (ln ns (ns.length - 1))) (pc2 := 78) d_Sp_spell_77 rfl (sh_741 hS) (nI_toInt (by omega)) (by omega) ((hf4 _ _ (by decide) (by decide)).trans (hL3 _ (by omega))) ?_
      refine q_putI (pc2 := 81) d_Sp_spell_78 rfl k_Sp_21 (Or.inl rfl) (sh_740 hS) (Or.inl rfl) (fun I6 hI6 => ?_)
      refine r_aload_n (x := some 740) (pc2 := 82) d_Sp_spell_81 rfl rfl ?_
      refine r_aload_n (x := some q) (pc2 := 83) d_Sp_spell_82 rfl rfl ?_
      have hf5 : ∀ a j, a < 740 ∨ 744 ≤ a → I6 a j = J a j := fun a j q1 => (rd_ne hI6 (by omega)).trans ((hf4 a j (by omega) (by omega)).trans (hf3 a j q1))
      refine r_callv (M2 := mi_Sp_spellAnswer) (pc2 := 86) d_Sp_spell_83 rfl k_Sp_45 cm_Sp_spellAnswer cv_Sp_spellAnswer (sh_740 hS) (by decide) rfl rfl rfl (Nat.le_of_ble_eq_true rfl) (k_Sp_spellAnswer_F (J := I6) hS hR hq0 hq1 hq2 hqn (W := tx ns (ns.length - 1)) (by omega) (fun p hp => (rd_ne hI6 (by decide)).trans (hw4 p hp)) (by rw [htl]; exact rd_eq hI6) hv9 ((hf5 _ _ (by omega)).trans hf) (by omega)) (d2 := d - 1) (by omega) (Nat.le_of_eq (Nat.zero_add _)) (Nat.le_of_eq (Nat.zero_add _)) (fun r2 h2 hq2 => ?_)
      obtain ⟨rfl, K6, rfl, hf6, hz6, hw6⟩ := hq2
      refine Run.ret none d_Sp_spell_86 rfl ?_
      exact ⟨rfl, _, rfl, fun a j q1 => (hf6 a j (by omega) (by omega)).trans (hf5 a j q1), hz6, hw6⟩
    · refine Run.ret none d_Sp_spell_31 rfl ?_
      exfalso; omega
theorem k_Sp_spell_S {d : Nat} {J : Nat → Nat → Int32} {R : Nat → Nat → Option Nat} {L : Nat → Nat → Int64} {sh : Nat → Nat × Nat} {N : Nat} (hS : ShOK sh) (hR : RfOK R) {q c : Nat} {ns : List Nd} (hq0 : sh q = (6, 0)) (hq1 : sh (q + 1) = (12, 3)) (hq2 : R q 2 = some (q + 1)) (hqn : q < 740 ∧ q + 1 < 740) (hcr : R q 0 = some c) (hC : CoK c ns J R sh) (hc : 781 ≤ c) (hv : NV ns) (hl : ns.length < 250) (h0 : 0 < ns.length) (hpf : PF ns 0 (ns.length - 1)) (hln : ln ns (ns.length - 1) ≤ 250) {a b e : Nat} (ha9 : a ≤ 333) (hb9 : b ≤ 333) (he9 : e ≤ 333) (hf : J q 1 = -1) (ha : J (q + 1) 0 = nI a) (hb : J (q + 1) 1 = nI b) (he : J (q + 1) 2 = nI e) (hd : 10 ≤ d) : Mt mi_Sp_spell d 0 0 [.ref 740, .ref q] (J, R, L, sh, N) (fun x h2 => x = none ∧ ∃ K, h2 = (K, R, L, sh, N) ∧ (∀ a j, a < 740 ∨ 744 ≤ a → K a j = J a j) ∧ K 740 3 = nI (tx ns (ns.length - 1) ++ nI 37 :: (spn a ++ nI 44 :: (spn b ++ nI 44 :: spn e))).length ∧ WT K (tx ns (ns.length - 1) ++ nI 37 :: (spn a ++ nI 44 :: (spn b ++ nI 44 :: spn e)))) := by
  refine Mt.of pn_Sp (Nat.le_of_ble_eq_true rfl) ?_
  show Run mi_Sp_spell d 0 0 0 [(0, .ref 740), (1, .ref q)] [] (J, R, L, sh, N) _
  refine r_aload_n (x := some 740) (pc2 := 1) d_Sp_spell_0 rfl rfl ?_
  refine r_iconst (v := nI 0) (pc2 := 2) d_Sp_spell_1 rfl (by decide) ?_
  refine q_putI (pc2 := 5) d_Sp_spell_2 rfl k_Sp_21 (Or.inl rfl) (sh_740 hS) (Or.inl rfl) (fun I1 hI1 => ?_)
  have hC := hC.c hc (fun a j q1 => rd_ne hI1 (by omega))
  have hf1 : ∀ a j, a < 740 ∨ 744 ≤ a → I1 a j = J a j := fun a j q1 => rd_ne hI1 (by omega)
  have htl := tx_len hv (ns.length - 1) (by omega)
  refine r_aload_n (x := some q) (pc2 := 6) d_Sp_spell_5 rfl rfl ?_
  refine q_getR (x := some c) (pc2 := 9) d_Sp_spell_6 rfl k_Sp_25 rfl hq0 hcr ?_
  refine r_astore_n (x := some c) (pc2 := 10) d_Sp_spell_9 rfl rfl (Nat.le_of_ble_eq_true rfl) ?_
  refine r_aload_n (x := some c) (pc2 := 11) d_Sp_spell_10 rfl rfl ?_
  refine r_ifnull (x := some c) (tgt := 31) (pc2 := 14) d_Sp_spell_11 rfl rfl (fun c2 => ?_) (fun _ c2 => ?_)
  · cases c2
  ·
    refine r_aload_n (x := some c) (pc2 := 15) d_Sp_spell_14 rfl rfl ?_
    refine q_callv (M2 := mi_Co_root) (pc2 := 18) d_Sp_spell_15 rfl k_Sp_31 cm_Co_root cv_Co_root hC.1.1 (by decide) rfl rfl rfl (Nat.le_of_ble_eq_true rfl) (k_Co_root (J := I1) hS hR hC hl h0) (d2 := d - 1) (by omega) (Nat.le_of_eq (Nat.zero_add _)) (Nat.le_of_eq (Nat.zero_add _)) ?_
    refine q_if_lt (tgt := 31) (A := ((ns.length - 1 : Nat) : Int)) (pc2 := 21) d_Sp_spell_18 rfl rfl (nI_toInt (by omega)) (fun c3 => ?_) (fun c3 => ?_)
    · exfalso; omega
    refine r_aload_n (x := some c) (pc2 := 22) d_Sp_spell_21 rfl rfl ?_
    refine q_callv (M2 := mi_Co_root) (pc2 := 25) d_Sp_spell_22 rfl k_Sp_31 cm_Co_root cv_Co_root hC.1.1 (by decide) rfl rfl rfl (Nat.le_of_ble_eq_true rfl) (k_Co_root (J := I1) hS hR hC hl h0) (d2 := d - 1) (by omega) (Nat.le_of_eq (Nat.zero_add _)) (Nat.le_of_eq (Nat.zero_add _)) ?_
    refine r_sipush (v := nI 250) (pc2 := 28) d_Sp_spell_25 rfl (by decide) ?_
    refine q_icmp_lt (tgt := 32) (A := ((ns.length - 1 : Nat) : Int)) (B := (250 : Int)) (pc2 := 31) d_Sp_spell_28 rfl rfl (nI_toInt (by omega)) (nI_toInt (by omega)) (fun c4 => ?_) (fun c4 => ?_)
    · refine r_aload_n (x := some 740) (pc2 := 33) d_Sp_spell_32 rfl rfl ?_
      refine r_aload_n (x := some c) (pc2 := 34) d_Sp_spell_33 rfl rfl ?_
      refine r_callv (M2 := mi_Sp_measure) (pc2 := 37) d_Sp_spell_34 rfl k_Sp_37 cm_Sp_measure cv_Sp_measure (sh_740 hS) (by decide) rfl rfl rfl (Nat.le_of_ble_eq_true rfl) (k_Sp_measure (J := I1) hS hR hC hv hl h0 hc (by omega)) (d2 := d - 1) (by omega) (Nat.le_of_eq (Nat.zero_add _)) (Nat.le_of_eq (Nat.zero_add _)) (fun r2 h2 hq2 => ?_)
      obtain ⟨rfl, K2, rfl, hL2, hf2⟩ := hq2
      have hC := hC.c hc (fun a j q1 => hf2 a j (by omega))
      refine r_aload_n (x := some 740) (pc2 := 38) d_Sp_spell_37 rfl rfl ?_
      refine q_getR (x := some 742) (pc2 := 41) d_Sp_spell_38 rfl k_Sp_15 rfl (sh_740 hS) (rf_740_1 hR) ?_
      refine r_aload_n (x := some c) (pc2 := 42) d_Sp_spell_41 rfl rfl ?_
      refine q_callv (M2 := mi_Co_root) (pc2 := 45) d_Sp_spell_42 rfl k_Sp_31 cm_Co_root cv_Co_root hC.1.1 (by decide) rfl rfl rfl (Nat.le_of_ble_eq_true rfl) (k_Co_root (J := K2) hS hR hC hl h0) (d2 := d - 1) (by omega) (Nat.le_of_eq (Nat.zero_add _)) (Nat.le_of_eq (Nat.zero_add _)) ?_
      refine r_iconst (v := nI 0) (pc2 := 46) d_Sp_spell_45 rfl (by decide) ?_
      refine q_iastore (q := ns.length - 1) (pc2 := 47) d_Sp_spell_46 rfl (sh_742 hS) (nI_toInt (by omega)) (by omega) (fun I5 hI5 => ?_)
      have hC := hC.c hc (fun a j q1 => rd_ne hI5 (by omega))
      have hL3 : ∀ j, j < ns.length → I5 741 j = nI (ln ns j) := fun j hj => (rd_ne hI5 (by decide)).trans (hL2 j hj)
      have hs3 : I5 742 (ns.length - 1) = nI 0 := rd_eq hI5
      have hf3 : ∀ a j, a < 740 ∨ 744 ≤ a → I5 a j = J a j := fun a j q1 => (rd_ne hI5 (by omega)).trans ((hf2 a j (by omega)).trans (hf1 a j q1))
      refine r_aload_n (x := some c) (pc2 := 48) d_Sp_spell_47 rfl rfl ?_
      refine q_callv (M2 := mi_Co_root) (pc2 := 51) d_Sp_spell_48 rfl k_Sp_31 cm_Co_root cv_Co_root hC.1.1 (by decide) rfl rfl rfl (Nat.le_of_ble_eq_true rfl) (k_Co_root (J := I5) hS hR hC hl h0) (d2 := d - 1) (by omega) (Nat.le_of_eq (Nat.zero_add _)) (Nat.le_of_eq (Nat.zero_add _)) ?_
      refine r_istore_n (pc2 := 52) d_Sp_spell_51 rfl rfl (Nat.le_of_ble_eq_true rfl) ?_
      rw [show nI (ns.length - 1) = nI ns.length - nI 1 from (eq_nI (by rw [nI_sub_toInt (by omega) (by omega)]; omega)).symm]
      refine Run.sub (l2 := [(0, .ref 740), (1, .ref q), (2, .ref c), (3, .int (nI ns.length - nI 1))]) ⟨rfl, rfl, rfl, rfl, trivial⟩ ?_
      refine l_Sp_spell (W := tx ns (ns.length - 1)) hS hR hC hc hv hl (by omega) hL3 (by omega) (hk := fun J4 hw4 hf4 => ?_) _ ns.length [ns.length - 1] I5 rfl ⟨by omega, 0, Nat.zero_le _, hpf, rfl⟩ ⟨fun j hj => ⟨0, by rw [List.mem_singleton.mp hj]; exact hs3, by rw [List.mem_singleton.mp hj]; exact CS.rf⟩, fun p hp => Or.inr ⟨ns.length - 1, List.mem_singleton.mpr rfl, 0, hs3, by omega, by omega, by omega⟩⟩ (fun _ _ _ _ => rfl) (Nat.le_refl _)
      have hC := hC.c hc (fun a j q1 => hf4 a j (by omega) (by omega))
      refine r_aload_n (x := some 740) (pc2 := 69) d_Sp_spell_68 rfl rfl ?_
      refine r_aload_n (x := some 740) (pc2 := 70) d_Sp_spell_69 rfl rfl ?_
      refine q_getR (x := some 741) (pc2 := 73) d_Sp_spell_70 rfl k_Sp_9 rfl (sh_740 hS) (rf_740_0 hR) ?_
      refine r_aload_n (x := some c) (pc2 := 74) d_Sp_spell_73 rfl rfl ?_
      refine q_callv (M2 := mi_Co_root) (pc2 := 77) d_Sp_spell_74 rfl k_Sp_31 cm_Co_root cv_Co_root hC.1.1 (by decide) rfl rfl rfl (Nat.le_of_ble_eq_true rfl) (k_Co_root (J := J4) hS hR hC hl h0) (d2 := d - 1) (by omega) (Nat.le_of_eq (Nat.zero_add _)) (Nat.le_of_eq (Nat.zero_add _)) ?_
      refine q_iaload (q := ns.length - 1) (x := nI (ln ns (ns.length - 1))) (pc2 := 78) d_Sp_spell_77 rfl (sh_741 hS) (nI_toInt (by omega)) (by omega) ((hf4 _ _ (by decide) (by decide)).trans (hL3 _ (by omega))) ?_
      refine q_putI (pc2 := 81) d_Sp_spell_78 rfl k_Sp_21 (Or.inl rfl) (sh_740 hS) (Or.inl rfl) (fun I6 hI6 => ?_)
      refine r_aload_n (x := some 740) (pc2 := 82) d_Sp_spell_81 rfl rfl ?_
      refine r_aload_n (x := some q) (pc2 := 83) d_Sp_spell_82 rfl rfl ?_
      have hf5 : ∀ a j, a < 740 ∨ 744 ≤ a → I6 a j = J a j := fun a j q1 => (rd_ne hI6 (by omega)).trans ((hf4 a j (by omega) (by omega)).trans (hf3 a j q1))
      refine r_callv (M2 := mi_Sp_spellAnswer) (pc2 := 86) d_Sp_spell_83 rfl k_Sp_45 cm_Sp_spellAnswer cv_Sp_spellAnswer (sh_740 hS) (by decide) rfl rfl rfl (Nat.le_of_ble_eq_true rfl) (k_Sp_spellAnswer_S (J := I6) hS hR hq0 hq1 hq2 hqn (W := tx ns (ns.length - 1)) (by omega) (fun p hp => (rd_ne hI6 (by decide)).trans (hw4 p hp)) (by rw [htl]; exact rd_eq hI6) ha9 hb9 he9 ((hf5 _ _ (by omega)).trans hf) ((hf5 _ _ (by omega)).trans ha) ((hf5 _ _ (by omega)).trans hb) ((hf5 _ _ (by omega)).trans he) (by omega)) (d2 := d - 1) (by omega) (Nat.le_of_eq (Nat.zero_add _)) (Nat.le_of_eq (Nat.zero_add _)) (fun r2 h2 hq2 => ?_)
      obtain ⟨rfl, K6, rfl, hf6, hz6, hw6⟩ := hq2
      refine Run.ret none d_Sp_spell_86 rfl ?_
      exact ⟨rfl, _, rfl, fun a j q1 => (hf6 a j (by omega) (by omega)).trans (hf5 a j q1), hz6, hw6⟩
    · refine Run.ret none d_Sp_spell_31 rfl ?_
      exfalso; omega
