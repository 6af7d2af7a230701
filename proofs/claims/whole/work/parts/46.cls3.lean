/-! THE CLASS: rules, answers -/
/-! answers: what is known, and the path -/
theorem an_sh {sh : Nat → Nat × Nat} (h : ShOK sh) {A : Nat} (hA : A = 718 ∨ A = 723) : sh A = (0, 0) ∧ sh (A + 1) = (12, 12) ∧ sh (A + 2) = (12, 12) ∧ sh (A + 3) = (12, 12) ∧ sh (A + 4) = (12, 12) := by
  rcases hA with rfl | rfl
  · exact ⟨sh_718 h, sh_719 h, sh_720 h, sh_721 h, sh_722 h⟩
  · exact ⟨sh_723 h, sh_724 h, sh_725 h, sh_726 h, sh_727 h⟩
theorem an_rf {R : Nat → Nat → Option Nat} (h : RfOK R) {A : Nat} (hA : A = 718 ∨ A = 723) : R A 0 = some (A + 1) ∧ R A 1 = some (A + 2) ∧ R A 2 = some (A + 3) ∧ R A 3 = some (A + 4) := by
  rcases hA with rfl | rfl
  · exact ⟨rf_718_0 h, rf_718_1 h, rf_718_2 h, rf_718_3 h⟩
  · exact ⟨rf_723_0 h, rf_723_1 h, rf_723_2 h, rf_723_3 h⟩
theorem fe_lt {e F : Nat} (he : e < 3) (hF : F < 12) : 12 ≤ fe e F ∧ fe e F + 19 ≤ 718 ∧ dk e + 11 ≤ fe e F ∧ fe e F + 19 ≤ dk e + 239 ∧ dk e + 239 ≤ 718 := by unfold fe dk; omega
def FrN (sh : Nat → Nat × Nat) (A : Nat) (I J : Nat → Nat → Int32) : Prop := ∀ a j, ¬ (A ≤ a ∧ a ≤ A + 4) → (sh a).1 ≠ 14 → J a j = I a j
theorem FrN.rf {sh : Nat → Nat × Nat} {A : Nat} {I : Nat → Nat → Int32} : FrN sh A I I := fun _ _ _ _ => rfl
theorem FrN.tr {sh : Nat → Nat × Nat} {A : Nat} {I J K : Nat → Nat → Int32} (h : FrN sh A I J) (h2 : FrN sh A J K) : FrN sh A I K := fun a j q z => (h2 a j q z).trans (h a j q z)
theorem FrN.put {sh : Nat → Nat × Nat} {A : Nat} {I J K : Nat → Nat → Int32} {a j : Nat} {v : Int32} (h : FrN sh A I J) (e : K = u2 J a j v) (hc : A ≤ a ∧ a ≤ A + 4) : FrN sh A I K := by
  intro b i q z
  subst e
  rw [← h b i q z]
  unfold u2
  rw [if_neg (fun y => q (by rw [y.1]; exact hc))]
theorem FrN.row {sh : Nat → Nat × Nat} {A : Nat} {I J : Nat → Nat → Int32} (h : FrN sh A I J) {a : Nat} (h1 : ¬ (A ≤ a ∧ a ≤ A + 4)) (h2 : (sh a).1 ≠ 14) : J a = I a := funext fun j => h a j h1 h2
theorem FrN.co {sh : Nat → Nat × Nat} {A : Nat} {I J : Nat → Nat → Int32} {c m : Nat} (hc : sh (c + 5) = (14, m)) (h : ∀ a, a ≠ c + 5 → J a = I a) : FrN sh A I J := fun a j _ h2 => by
  rw [h a (fun e => h2 (by rw [e, hc]))]
def AS (An : Nat → Int32 × Int32 × Int32) (A : Nat) (l : List Nat) (J : Nat → Nat → Int32) : Prop := J A 4 = nI l.length ∧ (∀ x, x < 12 → (bt (J A 5) x = true ↔ x ∈ l)) ∧ (∀ i, i < l.length → J (A + 4) i = nI (l.getD i 0)) ∧ ∀ x ∈ l, J (A + 1) x = (An x).1 ∧ J (A + 2) x = (An x).2.1 ∧ J (A + 3) x = (An x).2.2
theorem AS.fr {An : Nat → Int32 × Int32 × Int32} {A : Nat} {l : List Nat} {J K : Nat → Nat → Int32} (h : AS An A l J) (hK : ∀ a, A ≤ a → a ≤ A + 4 → K a = J a) : AS An A l K := by
  unfold AS
  rw [hK A (by omega) (by omega), hK (A + 4) (by omega) (by omega), hK (A + 1) (by omega) (by omega), hK (A + 2) (by omega) (by omega), hK (A + 3) (by omega) (by omega)]
  exact h
theorem AS.put {An : Nat → Int32 × Int32 × Int32} {A : Nat} {l : List Nat} {J K1 K2 K3 K4 K5 K : Nat → Nat → Int32} {F : Nat} {v b c : Int32} (h : AS An A l J) (hF : F < 12) (hl : F ∉ l) (e : An F = (v, b, c)) (h1 : K1 = u2 J (A + 1) F v) (h2 : K2 = u2 K1 (A + 2) F b) (h3 : K3 = u2 K2 (A + 3) F c) (h4 : K4 = u2 K3 (A + 4) l.length (nI F)) (h5 : K5 = u2 K4 A 4 (nI (l.length + 1))) (h6 : K = u2 K5 A 5 (J A 5 ||| (nI 1 <<< (nI F &&& 31)))) (hl12 : ∀ x ∈ l, x < 12) : AS An A (l ++ [F]) K := by
  obtain ⟨a1, a2, a3, a4⟩ := h
  refine ⟨?_, fun x hx => ?_, fun i hi => ?_, fun x hx => ?_⟩
  · rw [rd_nk h6 (by decide), rd_eq h5, List.length_append, List.length_singleton]
  · rw [rd_eq h6, b_set (by omega) (by omega), Bool.or_eq_true, a2 x hx, decide_eq_true_eq, List.mem_append, List.mem_singleton]
  · rw [List.length_append, List.length_singleton] at hi
    rw [rd_ne h6 (by omega), rd_ne h5 (by omega)]
    rcases Nat.lt_or_ge i l.length with q | q
    · rw [rd_nk h4 (by omega), rd_ne h3 (by omega), rd_ne h2 (by omega), rd_ne h1 (by omega), a3 i q, getD_app1 q]
    · rw [show i = l.length by omega, rd_eq h4, getD_app2]
  · rw [rd_ne h6 (by omega), rd_ne h5 (by omega), rd_ne h4 (by omega), rd_ne h3 (by omega), rd_ne h2 (by omega), rd_ne h6 (by omega), rd_ne h5 (by omega), rd_ne h4 (by omega), rd_ne h3 (by omega), rd_ne h6 (by omega), rd_ne h5 (by omega), rd_ne h4 (by omega)]
    rcases List.mem_append.mp hx with q | q
    · have hxF : x ≠ F := fun z => hl (z ▸ q)
      rw [rd_nk h1 hxF, rd_nk h2 hxF, rd_nk h3 hxF, rd_ne h2 (by omega), rd_ne h1 (by omega), rd_ne h1 (by omega)]
      exact a4 x q
    · rw [List.mem_singleton.mp q, rd_eq h1, rd_eq h2, rd_eq h3, e]; exact ⟨rfl, rfl, rfl⟩
theorem c_Ru_isFixed {d : Nat} {J : Nat → Nat → Int32} {R : Nat → Nat → Option Nat} {L : Nat → Nat → Int64} {sh : Nat → Nat × Nat} {N : Nat}  {q : Nat} (hq0 : sh q = (6, 0)) (hq1 : sh (q + 1) = (12, 3)) (hq2 : R q 2 = some (q + 1)) : Me mi_Ru_isFixed d 0 0 [.ref q] (J, R, L, sh, N) (some (.int (bI (¬ (J q 1).toInt = -1)))) (J, R, L, sh, N) := by
  refine Mt.of pn_Ru (Nat.le_of_ble_eq_true rfl) ?_
  show Run mi_Ru_isFixed d 0 0 0 [(0, .ref q)] [] (J, R, L, sh, N) _
  refine r_aload_n (x := some q) (pc2 := 1) d_Ru_isFixed_0 rfl rfl ?_
  refine q_getI (x := J q 1) (pc2 := 4) d_Ru_isFixed_1 rfl k_Ru_15 (by decide) hq0 rfl ?_
  refine r_iconst (v := (-1 : Int32)) (pc2 := 5) d_Ru_isFixed_4 rfl (by decide) ?_
  refine q_icmp_eq (tgt := 12) (A := (J q 1).toInt) (B := (-1 : Int)) (pc2 := 8) d_Ru_isFixed_5 rfl rfl (rfl) (by decide) (fun c1 => ?_) (fun c1 => ?_)
  · refine r_iconst (v := nI 0) (pc2 := 13) d_Ru_isFixed_12 rfl (by decide) ?_
    refine Run.ret (some (.int (nI 0))) d_Ru_isFixed_13 ⟨_, rfl, by decide⟩ ?_
    exact ⟨by rw [bI_f (fun z => z c1)]; rfl, rfl⟩
  · refine r_iconst (v := nI 1) (pc2 := 9) d_Ru_isFixed_8 rfl (by decide) ?_
    refine r_goto (tgt := 13) d_Ru_isFixed_9 rfl ?_
    refine Run.ret (some (.int (nI 1))) d_Ru_isFixed_13 ⟨_, rfl, by decide⟩ ?_
    exact ⟨by rw [bI_t c1]; rfl, rfl⟩
theorem c_Ru_variantOfF {d : Nat} {J : Nat → Nat → Int32} {R : Nat → Nat → Option Nat} {L : Nat → Nat → Int64} {sh : Nat → Nat × Nat} {N : Nat}  {q : Nat} (hq0 : sh q = (6, 0)) (hq1 : sh (q + 1) = (12, 3)) (hq2 : R q 2 = some (q + 1)) {Bx : Int32} {x : Int32} (h1 : J q 1 = x) (hx : 0 ≤ x.toInt) (hd : 1 ≤ d) : Me mi_Ru_variantOf d 0 0 [.ref q, .int Bx] (J, R, L, sh, N) (some (.int x)) (J, R, L, sh, N) := by
  have hm1 : (-1 : Int32).toInt = -1 := by decide
  refine Mt.of pn_Ru (Nat.le_of_ble_eq_true rfl) ?_
  show Run mi_Ru_variantOf d 0 0 0 [(0, .ref q), (1, .int Bx)] [] (J, R, L, sh, N) _
  refine r_aload_n (x := some q) (pc2 := 1) d_Ru_variantOf_0 rfl rfl ?_
  refine q_callv (M2 := mi_Ru_isFixed) (pc2 := 4) d_Ru_variantOf_1 rfl k_Ru_35 cm_Ru_isFixed cv_Ru_isFixed hq0 (by decide) rfl rfl rfl (Nat.le_of_ble_eq_true rfl) (c_Ru_isFixed (J := J) (q := q) hq0 hq1 hq2) (d2 := d - 1) (by omega) (Nat.le_of_eq (Nat.zero_add _)) (Nat.le_of_eq (Nat.zero_add _)) ?_
  rw [show J q 1 = x from h1]
  refine q_bif_eq (tgt := 12) (pc2 := 7) d_Ru_variantOf_4 rfl rfl (fun c1 => ?_) (fun c1 => ?_)
  · exfalso; omega
  · refine r_aload_n (x := some q) (pc2 := 8) d_Ru_variantOf_7 rfl rfl ?_
    refine q_getI (x := x) (pc2 := 11) d_Ru_variantOf_8 rfl k_Ru_15 (by decide) hq0 h1 ?_
    refine Run.ret (some (.int x)) d_Ru_variantOf_11 ⟨_, rfl⟩ ?_
    first | (exfalso; omega) | exact ⟨rfl, rfl⟩
theorem c_Ru_variantOfS {d : Nat} {J : Nat → Nat → Int32} {R : Nat → Nat → Option Nat} {L : Nat → Nat → Int64} {sh : Nat → Nat × Nat} {N : Nat}  {q : Nat} (hq0 : sh q = (6, 0)) (hq1 : sh (q + 1) = (12, 3)) (hq2 : R q 2 = some (q + 1)) {B p1 p2 p3 : Int32} (h1 : J q 1 = -1) (e1 : J (q + 1) 0 = p1) (e2 : J (q + 1) 1 = p2) (e3 : J (q + 1) 2 = p3) (r1 : 0 ≤ p1.toInt ∧ p1.toInt ≤ 333) (r2 : 0 ≤ p2.toInt ∧ p2.toInt ≤ 333) (r3 : 0 ≤ p3.toInt ∧ p3.toInt ≤ 333) (hB : 0 ≤ B.toInt ∧ B.toInt < 1000) (hd : 1 ≤ d) : Me mi_Ru_variantOf d 0 0 [.ref q, .int B] (J, R, L, sh, N) (some (.int (shV B.toInt p1 p2 p3))) (J, R, L, sh, N) := by
  have hm1 : (-1 : Int32).toInt = -1 := by decide
  refine Mt.of pn_Ru (Nat.le_of_ble_eq_true rfl) ?_
  show Run mi_Ru_variantOf d 0 0 0 [(0, .ref q), (1, .int B)] [] (J, R, L, sh, N) _
  refine r_aload_n (x := some q) (pc2 := 1) d_Ru_variantOf_0 rfl rfl ?_
  refine q_callv (M2 := mi_Ru_isFixed) (pc2 := 4) d_Ru_variantOf_1 rfl k_Ru_35 cm_Ru_isFixed cv_Ru_isFixed hq0 (by decide) rfl rfl rfl (Nat.le_of_ble_eq_true rfl) (c_Ru_isFixed (J := J) (q := q) hq0 hq1 hq2) (d2 := d - 1) (by omega) (Nat.le_of_eq (Nat.zero_add _)) (Nat.le_of_eq (Nat.zero_add _)) ?_
  rw [show J q 1 = (-1 : Int32) from h1]
  refine q_bif_eq (tgt := 12) (pc2 := 7) d_Ru_variantOf_4 rfl rfl (fun c1 => ?_) (fun c1 => ?_)
  · refine r_iconst (v := nI 1) (pc2 := 13) d_Ru_variantOf_12 rfl (by decide) ?_
    refine r_istore_n (pc2 := 14) d_Ru_variantOf_13 rfl rfl (Nat.le_of_ble_eq_true rfl) ?_
    refine r_iload_n (pc2 := 15) d_Ru_variantOf_14 rfl rfl ?_
    refine r_iconst (v := nI 3) (pc2 := 16) d_Ru_variantOf_15 rfl (by decide) ?_
    refine q_icmp_gt (tgt := 51) (A := (1 : Int)) (B := (3 : Int)) (pc2 := 19) d_Ru_variantOf_16 rfl rfl (nI_toInt (by omega)) (nI_toInt (by omega)) (fun c2 => ?_) (fun c2 => ?_)
    · exfalso; omega
    refine r_iload_n (pc2 := 20) d_Ru_variantOf_19 rfl rfl ?_
    refine q_calls (M2 := mi_X_firstBucket) (pc2 := 23) d_Ru_variantOf_20 rfl k_Ru_39 cm_X_firstBucket cs_X_firstBucket rfl rfl (Nat.le_of_ble_eq_true rfl) (c_X_firstBucket (v := 1) (by omega) (by omega)) (d2 := d - 1) (by omega) (Nat.le_of_eq (Nat.zero_add _)) (Nat.le_of_eq (Nat.zero_add _)) ?_
    refine r_istore_n (pc2 := 24) d_Ru_variantOf_23 rfl rfl (Nat.le_of_ble_eq_true rfl) ?_
    refine r_iload_n (pc2 := 25) d_Ru_variantOf_24 rfl rfl ?_
    refine r_iload_n (pc2 := 26) d_Ru_variantOf_25 rfl rfl ?_
    refine q_icmp_lt (tgt := 45) (A := B.toInt) (B := ((333 * (1 - 1) : Nat) : Int)) (pc2 := 29) d_Ru_variantOf_26 rfl rfl (rfl) (nI_toInt (by omega)) (fun c3 => ?_) (fun c3 => ?_)
    · refine q_iinc (b := 1) (pc2 := 48) d_Ru_variantOf_45 rfl rfl (by decide) (Nat.le_of_ble_eq_true rfl) ?_
      refine r_goto (tgt := 14) d_Ru_variantOf_48 rfl ?_
      refine r_iload_n (pc2 := 15) d_Ru_variantOf_14 rfl rfl ?_
      refine r_iconst (v := nI 3) (pc2 := 16) d_Ru_variantOf_15 rfl (by decide) ?_
      refine q_icmp_gt (tgt := 51) (A := (2 : Int)) (B := (3 : Int)) (pc2 := 19) d_Ru_variantOf_16 rfl rfl (nI_toInt (by omega)) (nI_toInt (by omega)) (fun c4 => ?_) (fun c4 => ?_)
      · exfalso; omega
      refine r_iload_n (pc2 := 20) d_Ru_variantOf_19 rfl rfl ?_
      refine q_calls (M2 := mi_X_firstBucket) (pc2 := 23) d_Ru_variantOf_20 rfl k_Ru_39 cm_X_firstBucket cs_X_firstBucket rfl rfl (Nat.le_of_ble_eq_true rfl) (c_X_firstBucket (v := 2) (by omega) (by omega)) (d2 := d - 1) (by omega) (Nat.le_of_eq (Nat.zero_add _)) (Nat.le_of_eq (Nat.zero_add _)) ?_
      refine r_istore_n (pc2 := 24) d_Ru_variantOf_23 rfl rfl (Nat.le_of_ble_eq_true rfl) ?_
      refine r_iload_n (pc2 := 25) d_Ru_variantOf_24 rfl rfl ?_
      refine r_iload_n (pc2 := 26) d_Ru_variantOf_25 rfl rfl ?_
      refine q_icmp_lt (tgt := 45) (A := B.toInt) (B := ((333 * (2 - 1) : Nat) : Int)) (pc2 := 29) d_Ru_variantOf_26 rfl rfl (rfl) (nI_toInt (by omega)) (fun c5 => ?_) (fun c5 => ?_)
      · refine q_iinc (b := 1) (pc2 := 48) d_Ru_variantOf_45 rfl rfl (by decide) (Nat.le_of_ble_eq_true rfl) ?_
        refine r_goto (tgt := 14) d_Ru_variantOf_48 rfl ?_
        refine r_iload_n (pc2 := 15) d_Ru_variantOf_14 rfl rfl ?_
        refine r_iconst (v := nI 3) (pc2 := 16) d_Ru_variantOf_15 rfl (by decide) ?_
        refine q_icmp_gt (tgt := 51) (A := (3 : Int)) (B := (3 : Int)) (pc2 := 19) d_Ru_variantOf_16 rfl rfl (nI_toInt (by omega)) (nI_toInt (by omega)) (fun c6 => ?_) (fun c6 => ?_)
        · exfalso; omega
        refine r_iload_n (pc2 := 20) d_Ru_variantOf_19 rfl rfl ?_
        refine q_calls (M2 := mi_X_firstBucket) (pc2 := 23) d_Ru_variantOf_20 rfl k_Ru_39 cm_X_firstBucket cs_X_firstBucket rfl rfl (Nat.le_of_ble_eq_true rfl) (c_X_firstBucket (v := 3) (by omega) (by omega)) (d2 := d - 1) (by omega) (Nat.le_of_eq (Nat.zero_add _)) (Nat.le_of_eq (Nat.zero_add _)) ?_
        refine r_istore_n (pc2 := 24) d_Ru_variantOf_23 rfl rfl (Nat.le_of_ble_eq_true rfl) ?_
        refine r_iload_n (pc2 := 25) d_Ru_variantOf_24 rfl rfl ?_
        refine r_iload_n (pc2 := 26) d_Ru_variantOf_25 rfl rfl ?_
        refine q_icmp_lt (tgt := 45) (A := B.toInt) (B := ((333 * (3 - 1) : Nat) : Int)) (pc2 := 29) d_Ru_variantOf_26 rfl rfl (rfl) (nI_toInt (by omega)) (fun c7 => ?_) (fun c7 => ?_)
        · refine q_iinc (b := 1) (pc2 := 48) d_Ru_variantOf_45 rfl rfl (by decide) (Nat.le_of_ble_eq_true rfl) ?_
          refine r_goto (tgt := 14) d_Ru_variantOf_48 rfl ?_
          refine r_iload_n (pc2 := 15) d_Ru_variantOf_14 rfl rfl ?_
          refine r_iconst (v := nI 3) (pc2 := 16) d_Ru_variantOf_15 rfl (by decide) ?_
          refine q_icmp_gt (tgt := 51) (A := (4 : Int)) (B := (3 : Int)) (pc2 := 19) d_Ru_variantOf_16 rfl rfl (nI_toInt (by omega)) (nI_toInt (by omega)) (fun c8 => ?_) (fun c8 => ?_)
          rotate_left
          · exfalso; omega
          refine r_iconst (v := nI 0) (pc2 := 52) d_Ru_variantOf_51 rfl (by decide) ?_
          refine Run.ret (some (.int (nI 0))) d_Ru_variantOf_52 ⟨_, rfl⟩ ?_
          first | (exfalso; omega) | exact ⟨congrArg (fun z => some (Value.int z)) (by unfold shV; (repeat (first | rw [if_pos (by omega)] | rw [if_neg (by omega)])); (try rfl)), rfl⟩
        · refine r_iload_n (pc2 := 30) d_Ru_variantOf_29 rfl rfl ?_
          refine r_iload_n (pc2 := 31) d_Ru_variantOf_30 rfl rfl ?_
          refine r_aload_n (x := some q) (pc2 := 32) d_Ru_variantOf_31 rfl rfl ?_
          refine q_getR (x := some (q + 1)) (pc2 := 35) d_Ru_variantOf_32 rfl k_Ru_19 rfl hq0 hq2 ?_
          refine r_iload_n (pc2 := 36) d_Ru_variantOf_35 rfl rfl ?_
          refine r_iconst (v := nI 1) (pc2 := 37) d_Ru_variantOf_36 rfl (by decide) ?_
          refine q_isubN (pc2 := 38) d_Ru_variantOf_37 rfl (by omega) ?_
          refine q_iaload (q := 2) (x := p3) (pc2 := 39) d_Ru_variantOf_38 rfl hq1 (nI_toInt (by omega)) (by omega) e3 ?_
          refine q_iaddV (pc2 := 40) d_Ru_variantOf_39 rfl (A := ((333 * (3 - 1) : Nat) : Int)) (B := p3.toInt) (nI_toInt (by omega)) (rfl) (by constructor <;> omega) (fun y9 ey9 hy9 => ?_)
          refine q_icmp_ge (tgt := 45) (A := B.toInt) (B := ((333 * (3 - 1) : Nat) : Int) + p3.toInt) (pc2 := 43) d_Ru_variantOf_40 rfl rfl (rfl) (hy9) (fun c10 => ?_) (fun c10 => ?_)
          · refine q_iinc (b := 1) (pc2 := 48) d_Ru_variantOf_45 rfl rfl (by decide) (Nat.le_of_ble_eq_true rfl) ?_
            refine r_goto (tgt := 14) d_Ru_variantOf_48 rfl ?_
            refine r_iload_n (pc2 := 15) d_Ru_variantOf_14 rfl rfl ?_
            refine r_iconst (v := nI 3) (pc2 := 16) d_Ru_variantOf_15 rfl (by decide) ?_
            refine q_icmp_gt (tgt := 51) (A := (4 : Int)) (B := (3 : Int)) (pc2 := 19) d_Ru_variantOf_16 rfl rfl (nI_toInt (by omega)) (nI_toInt (by omega)) (fun c11 => ?_) (fun c11 => ?_)
            rotate_left
            · exfalso; omega
            refine r_iconst (v := nI 0) (pc2 := 52) d_Ru_variantOf_51 rfl (by decide) ?_
            refine Run.ret (some (.int (nI 0))) d_Ru_variantOf_52 ⟨_, rfl⟩ ?_
            first | (exfalso; omega) | exact ⟨congrArg (fun z => some (Value.int z)) (by unfold shV; (repeat (first | rw [if_pos (by omega)] | rw [if_neg (by omega)])); (try rfl)), rfl⟩
          · refine r_iload_n (pc2 := 44) d_Ru_variantOf_43 rfl rfl ?_
            refine Run.ret (some (.int (nI 3))) d_Ru_variantOf_44 ⟨_, rfl⟩ ?_
            first | (exfalso; omega) | exact ⟨congrArg (fun z => some (Value.int z)) (by unfold shV; (repeat (first | rw [if_pos (by omega)] | rw [if_neg (by omega)])); (try rfl)), rfl⟩
      · refine r_iload_n (pc2 := 30) d_Ru_variantOf_29 rfl rfl ?_
        refine r_iload_n (pc2 := 31) d_Ru_variantOf_30 rfl rfl ?_
        refine r_aload_n (x := some q) (pc2 := 32) d_Ru_variantOf_31 rfl rfl ?_
        refine q_getR (x := some (q + 1)) (pc2 := 35) d_Ru_variantOf_32 rfl k_Ru_19 rfl hq0 hq2 ?_
        refine r_iload_n (pc2 := 36) d_Ru_variantOf_35 rfl rfl ?_
        refine r_iconst (v := nI 1) (pc2 := 37) d_Ru_variantOf_36 rfl (by decide) ?_
        refine q_isubN (pc2 := 38) d_Ru_variantOf_37 rfl (by omega) ?_
        refine q_iaload (q := 1) (x := p2) (pc2 := 39) d_Ru_variantOf_38 rfl hq1 (nI_toInt (by omega)) (by omega) e2 ?_
        refine q_iaddV (pc2 := 40) d_Ru_variantOf_39 rfl (A := ((333 * (2 - 1) : Nat) : Int)) (B := p2.toInt) (nI_toInt (by omega)) (rfl) (by constructor <;> omega) (fun y12 ey12 hy12 => ?_)
        refine q_icmp_ge (tgt := 45) (A := B.toInt) (B := ((333 * (2 - 1) : Nat) : Int) + p2.toInt) (pc2 := 43) d_Ru_variantOf_40 rfl rfl (rfl) (hy12) (fun c13 => ?_) (fun c13 => ?_)
        · refine q_iinc (b := 1) (pc2 := 48) d_Ru_variantOf_45 rfl rfl (by decide) (Nat.le_of_ble_eq_true rfl) ?_
          refine r_goto (tgt := 14) d_Ru_variantOf_48 rfl ?_
          refine r_iload_n (pc2 := 15) d_Ru_variantOf_14 rfl rfl ?_
          refine r_iconst (v := nI 3) (pc2 := 16) d_Ru_variantOf_15 rfl (by decide) ?_
          refine q_icmp_gt (tgt := 51) (A := (3 : Int)) (B := (3 : Int)) (pc2 := 19) d_Ru_variantOf_16 rfl rfl (nI_toInt (by omega)) (nI_toInt (by omega)) (fun c14 => ?_) (fun c14 => ?_)
          · exfalso; omega
          refine r_iload_n (pc2 := 20) d_Ru_variantOf_19 rfl rfl ?_
          refine q_calls (M2 := mi_X_firstBucket) (pc2 := 23) d_Ru_variantOf_20 rfl k_Ru_39 cm_X_firstBucket cs_X_firstBucket rfl rfl (Nat.le_of_ble_eq_true rfl) (c_X_firstBucket (v := 3) (by omega) (by omega)) (d2 := d - 1) (by omega) (Nat.le_of_eq (Nat.zero_add _)) (Nat.le_of_eq (Nat.zero_add _)) ?_
          refine r_istore_n (pc2 := 24) d_Ru_variantOf_23 rfl rfl (Nat.le_of_ble_eq_true rfl) ?_
          refine r_iload_n (pc2 := 25) d_Ru_variantOf_24 rfl rfl ?_
          refine r_iload_n (pc2 := 26) d_Ru_variantOf_25 rfl rfl ?_
          refine q_icmp_lt (tgt := 45) (A := B.toInt) (B := ((333 * (3 - 1) : Nat) : Int)) (pc2 := 29) d_Ru_variantOf_26 rfl rfl (rfl) (nI_toInt (by omega)) (fun c15 => ?_) (fun c15 => ?_)
          · refine q_iinc (b := 1) (pc2 := 48) d_Ru_variantOf_45 rfl rfl (by decide) (Nat.le_of_ble_eq_true rfl) ?_
            refine r_goto (tgt := 14) d_Ru_variantOf_48 rfl ?_
            refine r_iload_n (pc2 := 15) d_Ru_variantOf_14 rfl rfl ?_
            refine r_iconst (v := nI 3) (pc2 := 16) d_Ru_variantOf_15 rfl (by decide) ?_
            refine q_icmp_gt (tgt := 51) (A := (4 : Int)) (B := (3 : Int)) (pc2 := 19) d_Ru_variantOf_16 rfl rfl (nI_toInt (by omega)) (nI_toInt (by omega)) (fun c16 => ?_) (fun c16 => ?_)
            rotate_left
            · exfalso; omega
            refine r_iconst (v := nI 0) (pc2 := 52) d_Ru_variantOf_51 rfl (by decide) ?_
            refine Run.ret (some (.int (nI 0))) d_Ru_variantOf_52 ⟨_, rfl⟩ ?_
            first | (exfalso; omega) | exact ⟨congrArg (fun z => some (Value.int z)) (by unfold shV; (repeat (first | rw [if_pos (by omega)] | rw [if_neg (by omega)])); (try rfl)), rfl⟩
          · refine r_iload_n (pc2 := 30) d_Ru_variantOf_29 rfl rfl ?_
            refine r_iload_n (pc2 := 31) d_Ru_variantOf_30 rfl rfl ?_
            refine r_aload_n (x := some q) (pc2 := 32) d_Ru_variantOf_31 rfl rfl ?_
            refine q_getR (x := some (q + 1)) (pc2 := 35) d_Ru_variantOf_32 rfl k_Ru_19 rfl hq0 hq2 ?_
            refine r_iload_n (pc2 := 36) d_Ru_variantOf_35 rfl rfl ?_
            refine r_iconst (v := nI 1) (pc2 := 37) d_Ru_variantOf_36 rfl (by decide) ?_
            refine q_isubN (pc2 := 38) d_Ru_variantOf_37 rfl (by omega) ?_
            refine q_iaload (q := 2) (x := p3) (pc2 := 39) d_Ru_variantOf_38 rfl hq1 (nI_toInt (by omega)) (by omega) e3 ?_
            refine q_iaddV (pc2 := 40) d_Ru_variantOf_39 rfl (A := ((333 * (3 - 1) : Nat) : Int)) (B := p3.toInt) (nI_toInt (by omega)) (rfl) (by constructor <;> omega) (fun y17 ey17 hy17 => ?_)
            refine q_icmp_ge (tgt := 45) (A := B.toInt) (B := ((333 * (3 - 1) : Nat) : Int) + p3.toInt) (pc2 := 43) d_Ru_variantOf_40 rfl rfl (rfl) (hy17) (fun c18 => ?_) (fun c18 => ?_)
            · refine q_iinc (b := 1) (pc2 := 48) d_Ru_variantOf_45 rfl rfl (by decide) (Nat.le_of_ble_eq_true rfl) ?_
              refine r_goto (tgt := 14) d_Ru_variantOf_48 rfl ?_
              refine r_iload_n (pc2 := 15) d_Ru_variantOf_14 rfl rfl ?_
              refine r_iconst (v := nI 3) (pc2 := 16) d_Ru_variantOf_15 rfl (by decide) ?_
              refine q_icmp_gt (tgt := 51) (A := (4 : Int)) (B := (3 : Int)) (pc2 := 19) d_Ru_variantOf_16 rfl rfl (nI_toInt (by omega)) (nI_toInt (by omega)) (fun c19 => ?_) (fun c19 => ?_)
              rotate_left
              · exfalso; omega
              refine r_iconst (v := nI 0) (pc2 := 52) d_Ru_variantOf_51 rfl (by decide) ?_
              refine Run.ret (some (.int (nI 0))) d_Ru_variantOf_52 ⟨_, rfl⟩ ?_
              first | (exfalso; omega) | exact ⟨congrArg (fun z => some (Value.int z)) (by unfold shV; (repeat (first | rw [if_pos (by omega)] | rw [if_neg (by omega)])); (try rfl)), rfl⟩
            · refine r_iload_n (pc2 := 44) d_Ru_variantOf_43 rfl rfl ?_
              refine Run.ret (some (.int (nI 3))) d_Ru_variantOf_44 ⟨_, rfl⟩ ?_
              first | (exfalso; omega) | exact ⟨congrArg (fun z => some (Value.int z)) (by unfold shV; (repeat (first | rw [if_pos (by omega)] | rw [if_neg (by omega)])); (try rfl)), rfl⟩
        · refine r_iload_n (pc2 := 44) d_Ru_variantOf_43 rfl rfl ?_
          refine Run.ret (some (.int (nI 2))) d_Ru_variantOf_44 ⟨_, rfl⟩ ?_
          first | (exfalso; omega) | exact ⟨congrArg (fun z => some (Value.int z)) (by unfold shV; (repeat (first | rw [if_pos (by omega)] | rw [if_neg (by omega)])); (try rfl)), rfl⟩
    · refine r_iload_n (pc2 := 30) d_Ru_variantOf_29 rfl rfl ?_
      refine r_iload_n (pc2 := 31) d_Ru_variantOf_30 rfl rfl ?_
      refine r_aload_n (x := some q) (pc2 := 32) d_Ru_variantOf_31 rfl rfl ?_
      refine q_getR (x := some (q + 1)) (pc2 := 35) d_Ru_variantOf_32 rfl k_Ru_19 rfl hq0 hq2 ?_
      refine r_iload_n (pc2 := 36) d_Ru_variantOf_35 rfl rfl ?_
      refine r_iconst (v := nI 1) (pc2 := 37) d_Ru_variantOf_36 rfl (by decide) ?_
      refine q_isubN (pc2 := 38) d_Ru_variantOf_37 rfl (by omega) ?_
      refine q_iaload (q := 0) (x := p1) (pc2 := 39) d_Ru_variantOf_38 rfl hq1 (nI_toInt (by omega)) (by omega) e1 ?_
      refine q_iaddV (pc2 := 40) d_Ru_variantOf_39 rfl (A := ((333 * (1 - 1) : Nat) : Int)) (B := p1.toInt) (nI_toInt (by omega)) (rfl) (by constructor <;> omega) (fun y20 ey20 hy20 => ?_)
      refine q_icmp_ge (tgt := 45) (A := B.toInt) (B := ((333 * (1 - 1) : Nat) : Int) + p1.toInt) (pc2 := 43) d_Ru_variantOf_40 rfl rfl (rfl) (hy20) (fun c21 => ?_) (fun c21 => ?_)
      · refine q_iinc (b := 1) (pc2 := 48) d_Ru_variantOf_45 rfl rfl (by decide) (Nat.le_of_ble_eq_true rfl) ?_
        refine r_goto (tgt := 14) d_Ru_variantOf_48 rfl ?_
        refine r_iload_n (pc2 := 15) d_Ru_variantOf_14 rfl rfl ?_
        refine r_iconst (v := nI 3) (pc2 := 16) d_Ru_variantOf_15 rfl (by decide) ?_
        refine q_icmp_gt (tgt := 51) (A := (2 : Int)) (B := (3 : Int)) (pc2 := 19) d_Ru_variantOf_16 rfl rfl (nI_toInt (by omega)) (nI_toInt (by omega)) (fun c22 => ?_) (fun c22 => ?_)
        · exfalso; omega
        refine r_iload_n (pc2 := 20) d_Ru_variantOf_19 rfl rfl ?_
        refine q_calls (M2 := mi_X_firstBucket) (pc2 := 23) d_Ru_variantOf_20 rfl k_Ru_39 cm_X_firstBucket cs_X_firstBucket rfl rfl (Nat.le_of_ble_eq_true rfl) (c_X_firstBucket (v := 2) (by omega) (by omega)) (d2 := d - 1) (by omega) (Nat.le_of_eq (Nat.zero_add _)) (Nat.le_of_eq (Nat.zero_add _)) ?_
        refine r_istore_n (pc2 := 24) d_Ru_variantOf_23 rfl rfl (Nat.le_of_ble_eq_true rfl) ?_
        refine r_iload_n (pc2 := 25) d_Ru_variantOf_24 rfl rfl ?_
        refine r_iload_n (pc2 := 26) d_Ru_variantOf_25 rfl rfl ?_
        refine q_icmp_lt (tgt := 45) (A := B.toInt) (B := ((333 * (2 - 1) : Nat) : Int)) (pc2 := 29) d_Ru_variantOf_26 rfl rfl (rfl) (nI_toInt (by omega)) (fun c23 => ?_) (fun c23 => ?_)
        · refine q_iinc (b := 1) (pc2 := 48) d_Ru_variantOf_45 rfl rfl (by decide) (Nat.le_of_ble_eq_true rfl) ?_
          refine r_goto (tgt := 14) d_Ru_variantOf_48 rfl ?_
          refine r_iload_n (pc2 := 15) d_Ru_variantOf_14 rfl rfl ?_
          refine r_iconst (v := nI 3) (pc2 := 16) d_Ru_variantOf_15 rfl (by decide) ?_
          refine q_icmp_gt (tgt := 51) (A := (3 : Int)) (B := (3 : Int)) (pc2 := 19) d_Ru_variantOf_16 rfl rfl (nI_toInt (by omega)) (nI_toInt (by omega)) (fun c24 => ?_) (fun c24 => ?_)
          · exfalso; omega
          refine r_iload_n (pc2 := 20) d_Ru_variantOf_19 rfl rfl ?_
          refine q_calls (M2 := mi_X_firstBucket) (pc2 := 23) d_Ru_variantOf_20 rfl k_Ru_39 cm_X_firstBucket cs_X_firstBucket rfl rfl (Nat.le_of_ble_eq_true rfl) (c_X_firstBucket (v := 3) (by omega) (by omega)) (d2 := d - 1) (by omega) (Nat.le_of_eq (Nat.zero_add _)) (Nat.le_of_eq (Nat.zero_add _)) ?_
          refine r_istore_n (pc2 := 24) d_Ru_variantOf_23 rfl rfl (Nat.le_of_ble_eq_true rfl) ?_
          refine r_iload_n (pc2 := 25) d_Ru_variantOf_24 rfl rfl ?_
          refine r_iload_n (pc2 := 26) d_Ru_variantOf_25 rfl rfl ?_
          refine q_icmp_lt (tgt := 45) (A := B.toInt) (B := ((333 * (3 - 1) : Nat) : Int)) (pc2 := 29) d_Ru_variantOf_26 rfl rfl (rfl) (nI_toInt (by omega)) (fun c25 => ?_) (fun c25 => ?_)
          · refine q_iinc (b := 1) (pc2 := 48) d_Ru_variantOf_45 rfl rfl (by decide) (Nat.le_of_ble_eq_true rfl) ?_
            refine r_goto (tgt := 14) d_Ru_variantOf_48 rfl ?_
            refine r_iload_n (pc2 := 15) d_Ru_variantOf_14 rfl rfl ?_
            refine r_iconst (v := nI 3) (pc2 := 16) d_Ru_variantOf_15 rfl (by decide) ?_
            refine q_icmp_gt (tgt := 51) (A := (4 : Int)) (B := (3 : Int)) (pc2 := 19) d_Ru_variantOf_16 rfl rfl (nI_toInt (by omega)) (nI_toInt (by omega)) (fun c26 => ?_) (fun c26 => ?_)
            rotate_left
            · exfalso; omega
            refine r_iconst (v := nI 0) (pc2 := 52) d_Ru_variantOf_51 rfl (by decide) ?_
            refine Run.ret (some (.int (nI 0))) d_Ru_variantOf_52 ⟨_, rfl⟩ ?_
            first | (exfalso; omega) | exact ⟨congrArg (fun z => some (Value.int z)) (by unfold shV; (repeat (first | rw [if_pos (by omega)] | rw [if_neg (by omega)])); (try rfl)), rfl⟩
          · refine r_iload_n (pc2 := 30) d_Ru_variantOf_29 rfl rfl ?_
            refine r_iload_n (pc2 := 31) d_Ru_variantOf_30 rfl rfl ?_
            refine r_aload_n (x := some q) (pc2 := 32) d_Ru_variantOf_31 rfl rfl ?_
            refine q_getR (x := some (q + 1)) (pc2 := 35) d_Ru_variantOf_32 rfl k_Ru_19 rfl hq0 hq2 ?_
            refine r_iload_n (pc2 := 36) d_Ru_variantOf_35 rfl rfl ?_
            refine r_iconst (v := nI 1) (pc2 := 37) d_Ru_variantOf_36 rfl (by decide) ?_
            refine q_isubN (pc2 := 38) d_Ru_variantOf_37 rfl (by omega) ?_
            refine q_iaload (q := 2) (x := p3) (pc2 := 39) d_Ru_variantOf_38 rfl hq1 (nI_toInt (by omega)) (by omega) e3 ?_
            refine q_iaddV (pc2 := 40) d_Ru_variantOf_39 rfl (A := ((333 * (3 - 1) : Nat) : Int)) (B := p3.toInt) (nI_toInt (by omega)) (rfl) (by constructor <;> omega) (fun y27 ey27 hy27 => ?_)
            refine q_icmp_ge (tgt := 45) (A := B.toInt) (B := ((333 * (3 - 1) : Nat) : Int) + p3.toInt) (pc2 := 43) d_Ru_variantOf_40 rfl rfl (rfl) (hy27) (fun c28 => ?_) (fun c28 => ?_)
            · refine q_iinc (b := 1) (pc2 := 48) d_Ru_variantOf_45 rfl rfl (by decide) (Nat.le_of_ble_eq_true rfl) ?_
              refine r_goto (tgt := 14) d_Ru_variantOf_48 rfl ?_
              refine r_iload_n (pc2 := 15) d_Ru_variantOf_14 rfl rfl ?_
              refine r_iconst (v := nI 3) (pc2 := 16) d_Ru_variantOf_15 rfl (by decide) ?_
              refine q_icmp_gt (tgt := 51) (A := (4 : Int)) (B := (3 : Int)) (pc2 := 19) d_Ru_variantOf_16 rfl rfl (nI_toInt (by omega)) (nI_toInt (by omega)) (fun c29 => ?_) (fun c29 => ?_)
              rotate_left
              · exfalso; omega
              refine r_iconst (v := nI 0) (pc2 := 52) d_Ru_variantOf_51 rfl (by decide) ?_
              refine Run.ret (some (.int (nI 0))) d_Ru_variantOf_52 ⟨_, rfl⟩ ?_
              first | (exfalso; omega) | exact ⟨congrArg (fun z => some (Value.int z)) (by unfold shV; (repeat (first | rw [if_pos (by omega)] | rw [if_neg (by omega)])); (try rfl)), rfl⟩
            · refine r_iload_n (pc2 := 44) d_Ru_variantOf_43 rfl rfl ?_
              refine Run.ret (some (.int (nI 3))) d_Ru_variantOf_44 ⟨_, rfl⟩ ?_
              first | (exfalso; omega) | exact ⟨congrArg (fun z => some (Value.int z)) (by unfold shV; (repeat (first | rw [if_pos (by omega)] | rw [if_neg (by omega)])); (try rfl)), rfl⟩
        · refine r_iload_n (pc2 := 30) d_Ru_variantOf_29 rfl rfl ?_
          refine r_iload_n (pc2 := 31) d_Ru_variantOf_30 rfl rfl ?_
          refine r_aload_n (x := some q) (pc2 := 32) d_Ru_variantOf_31 rfl rfl ?_
          refine q_getR (x := some (q + 1)) (pc2 := 35) d_Ru_variantOf_32 rfl k_Ru_19 rfl hq0 hq2 ?_
          refine r_iload_n (pc2 := 36) d_Ru_variantOf_35 rfl rfl ?_
          refine r_iconst (v := nI 1) (pc2 := 37) d_Ru_variantOf_36 rfl (by decide) ?_
          refine q_isubN (pc2 := 38) d_Ru_variantOf_37 rfl (by omega) ?_
          refine q_iaload (q := 1) (x := p2) (pc2 := 39) d_Ru_variantOf_38 rfl hq1 (nI_toInt (by omega)) (by omega) e2 ?_
          refine q_iaddV (pc2 := 40) d_Ru_variantOf_39 rfl (A := ((333 * (2 - 1) : Nat) : Int)) (B := p2.toInt) (nI_toInt (by omega)) (rfl) (by constructor <;> omega) (fun y30 ey30 hy30 => ?_)
          refine q_icmp_ge (tgt := 45) (A := B.toInt) (B := ((333 * (2 - 1) : Nat) : Int) + p2.toInt) (pc2 := 43) d_Ru_variantOf_40 rfl rfl (rfl) (hy30) (fun c31 => ?_) (fun c31 => ?_)
          · refine q_iinc (b := 1) (pc2 := 48) d_Ru_variantOf_45 rfl rfl (by decide) (Nat.le_of_ble_eq_true rfl) ?_
            refine r_goto (tgt := 14) d_Ru_variantOf_48 rfl ?_
            refine r_iload_n (pc2 := 15) d_Ru_variantOf_14 rfl rfl ?_
            refine r_iconst (v := nI 3) (pc2 := 16) d_Ru_variantOf_15 rfl (by decide) ?_
            refine q_icmp_gt (tgt := 51) (A := (3 : Int)) (B := (3 : Int)) (pc2 := 19) d_Ru_variantOf_16 rfl rfl (nI_toInt (by omega)) (nI_toInt (by omega)) (fun c32 => ?_) (fun c32 => ?_)
            · exfalso; omega
            refine r_iload_n (pc2 := 20) d_Ru_variantOf_19 rfl rfl ?_
            refine q_calls (M2 := mi_X_firstBucket) (pc2 := 23) d_Ru_variantOf_20 rfl k_Ru_39 cm_X_firstBucket cs_X_firstBucket rfl rfl (Nat.le_of_ble_eq_true rfl) (c_X_firstBucket (v := 3) (by omega) (by omega)) (d2 := d - 1) (by omega) (Nat.le_of_eq (Nat.zero_add _)) (Nat.le_of_eq (Nat.zero_add _)) ?_
            refine r_istore_n (pc2 := 24) d_Ru_variantOf_23 rfl rfl (Nat.le_of_ble_eq_true rfl) ?_
            refine r_iload_n (pc2 := 25) d_Ru_variantOf_24 rfl rfl ?_
            refine r_iload_n (pc2 := 26) d_Ru_variantOf_25 rfl rfl ?_
            refine q_icmp_lt (tgt := 45) (A := B.toInt) (B := ((333 * (3 - 1) : Nat) : Int)) (pc2 := 29) d_Ru_variantOf_26 rfl rfl (rfl) (nI_toInt (by omega)) (fun c33 => ?_) (fun c33 => ?_)
            · refine q_iinc (b := 1) (pc2 := 48) d_Ru_variantOf_45 rfl rfl (by decide) (Nat.le_of_ble_eq_true rfl) ?_
              refine r_goto (tgt := 14) d_Ru_variantOf_48 rfl ?_
              refine r_iload_n (pc2 := 15) d_Ru_variantOf_14 rfl rfl ?_
              refine r_iconst (v := nI 3) (pc2 := 16) d_Ru_variantOf_15 rfl (by decide) ?_
              refine q_icmp_gt (tgt := 51) (A := (4 : Int)) (B := (3 : Int)) (pc2 := 19) d_Ru_variantOf_16 rfl rfl (nI_toInt (by omega)) (nI_toInt (by omega)) (fun c34 => ?_) (fun c34 => ?_)
              rotate_left
              · exfalso; omega
              refine r_iconst (v := nI 0) (pc2 := 52) d_Ru_variantOf_51 rfl (by decide) ?_
              refine Run.ret (some (.int (nI 0))) d_Ru_variantOf_52 ⟨_, rfl⟩ ?_
              first | (exfalso; omega) | exact ⟨congrArg (fun z => some (Value.int z)) (by unfold shV; (repeat (first | rw [if_pos (by omega)] | rw [if_neg (by omega)])); (try rfl)), rfl⟩
            · refine r_iload_n (pc2 := 30) d_Ru_variantOf_29 rfl rfl ?_
              refine r_iload_n (pc2 := 31) d_Ru_variantOf_30 rfl rfl ?_
              refine r_aload_n (x := some q) (pc2 := 32) d_Ru_variantOf_31 rfl rfl ?_
              refine q_getR (x := some (q + 1)) (pc2 := 35) d_Ru_variantOf_32 rfl k_Ru_19 rfl hq0 hq2 ?_
              refine r_iload_n (pc2 := 36) d_Ru_variantOf_35 rfl rfl ?_
              refine r_iconst (v := nI 1) (pc2 := 37) d_Ru_variantOf_36 rfl (by decide) ?_
              refine q_isubN (pc2 := 38) d_Ru_variantOf_37 rfl (by omega) ?_
              refine q_iaload (q := 2) (x := p3) (pc2 := 39) d_Ru_variantOf_38 rfl hq1 (nI_toInt (by omega)) (by omega) e3 ?_
              refine q_iaddV (pc2 := 40) d_Ru_variantOf_39 rfl (A := ((333 * (3 - 1) : Nat) : Int)) (B := p3.toInt) (nI_toInt (by omega)) (rfl) (by constructor <;> omega) (fun y35 ey35 hy35 => ?_)
              refine q_icmp_ge (tgt := 45) (A := B.toInt) (B := ((333 * (3 - 1) : Nat) : Int) + p3.toInt) (pc2 := 43) d_Ru_variantOf_40 rfl rfl (rfl) (hy35) (fun c36 => ?_) (fun c36 => ?_)
              · refine q_iinc (b := 1) (pc2 := 48) d_Ru_variantOf_45 rfl rfl (by decide) (Nat.le_of_ble_eq_true rfl) ?_
                refine r_goto (tgt := 14) d_Ru_variantOf_48 rfl ?_
                refine r_iload_n (pc2 := 15) d_Ru_variantOf_14 rfl rfl ?_
                refine r_iconst (v := nI 3) (pc2 := 16) d_Ru_variantOf_15 rfl (by decide) ?_
                refine q_icmp_gt (tgt := 51) (A := (4 : Int)) (B := (3 : Int)) (pc2 := 19) d_Ru_variantOf_16 rfl rfl (nI_toInt (by omega)) (nI_toInt (by omega)) (fun c37 => ?_) (fun c37 => ?_)
                rotate_left
                · exfalso; omega
                refine r_iconst (v := nI 0) (pc2 := 52) d_Ru_variantOf_51 rfl (by decide) ?_
                refine Run.ret (some (.int (nI 0))) d_Ru_variantOf_52 ⟨_, rfl⟩ ?_
                first | (exfalso; omega) | exact ⟨congrArg (fun z => some (Value.int z)) (by unfold shV; (repeat (first | rw [if_pos (by omega)] | rw [if_neg (by omega)])); (try rfl)), rfl⟩
              · refine r_iload_n (pc2 := 44) d_Ru_variantOf_43 rfl rfl ?_
                refine Run.ret (some (.int (nI 3))) d_Ru_variantOf_44 ⟨_, rfl⟩ ?_
                first | (exfalso; omega) | exact ⟨congrArg (fun z => some (Value.int z)) (by unfold shV; (repeat (first | rw [if_pos (by omega)] | rw [if_neg (by omega)])); (try rfl)), rfl⟩
          · refine r_iload_n (pc2 := 44) d_Ru_variantOf_43 rfl rfl ?_
            refine Run.ret (some (.int (nI 2))) d_Ru_variantOf_44 ⟨_, rfl⟩ ?_
            first | (exfalso; omega) | exact ⟨congrArg (fun z => some (Value.int z)) (by unfold shV; (repeat (first | rw [if_pos (by omega)] | rw [if_neg (by omega)])); (try rfl)), rfl⟩
      · refine r_iload_n (pc2 := 44) d_Ru_variantOf_43 rfl rfl ?_
        refine Run.ret (some (.int (nI 1))) d_Ru_variantOf_44 ⟨_, rfl⟩ ?_
        first | (exfalso; omega) | exact ⟨congrArg (fun z => some (Value.int z)) (by unfold shV; (repeat (first | rw [if_pos (by omega)] | rw [if_neg (by omega)])); (try rfl)), rfl⟩
  · exfalso; omega
theorem c_An_begin {d : Nat} {J : Nat → Nat → Int32} {R : Nat → Nat → Option Nat} {L : Nat → Nat → Int64} {sh : Nat → Nat × Nat} {N : Nat} (hS : ShOK sh) (hR : RfOK R) {An : Nat → Int32 × Int32 × Int32} {A : Nat} (hA : A = 718 ∨ A = 723) {I : Nat → Nat → Int32} (hJ : FrN sh A I J) : Mt mi_An_begin d 0 0 [.ref A] (J, R, L, sh, N) (fun r h2 => r = none ∧ ∃ K, h2 = (K, R, L, sh, N) ∧ FrN sh A I K ∧ AS An A [] K) := by
  refine Mt.of pn_An (Nat.le_of_ble_eq_true rfl) ?_
  show Run mi_An_begin d 0 0 0 [(0, .ref A)] [] (J, R, L, sh, N) _
  refine r_aload_n (x := some A) (pc2 := 1) d_An_begin_0 rfl rfl ?_
  refine r_iconst (v := nI 0) (pc2 := 2) d_An_begin_1 rfl (by decide) ?_
  refine q_putI (pc2 := 5) d_An_begin_2 rfl k_An_24 (Or.inl rfl) ((an_sh hS hA).1) (Or.inl rfl) (fun I1 hI1 => ?_)
  refine r_aload_n (x := some A) (pc2 := 6) d_An_begin_5 rfl rfl ?_
  refine r_iconst (v := nI 0) (pc2 := 7) d_An_begin_6 rfl (by decide) ?_
  refine q_putI (pc2 := 10) d_An_begin_7 rfl k_An_28 (Or.inl rfl) ((an_sh hS hA).1) (Or.inl rfl) (fun I2 hI2 => ?_)
  refine Run.ret none d_An_begin_10 rfl ?_
  exact ⟨rfl, _, rfl, (hJ.put hI1 (by omega)).put hI2 (by omega), by rw [rd_nk hI2 (by decide), rd_eq hI1]; rfl, fun x hx => by rw [rd_eq hI2, show nI 0 = 0 from rfl, b_0]; simp, fun i hi => absurd hi (by simp), fun x hx => absurd hx List.not_mem_nil⟩
theorem c_An_knows {d : Nat} {J : Nat → Nat → Int32} {R : Nat → Nat → Option Nat} {L : Nat → Nat → Int64} {sh : Nat → Nat × Nat} {N : Nat} (hS : ShOK sh) (hR : RfOK R) {A : Nat} (hA : A = 718 ∨ A = 723) {x : Int32} (hx : J A 5 = x) {F : Nat} (hF : F < 32) (hd : 1 ≤ d) : Me mi_An_knows d 0 0 [.ref A, .int (nI F)] (J, R, L, sh, N) (some (.int (bI (bt x F = true)))) (J, R, L, sh, N) := by
  refine Mt.of pn_An (Nat.le_of_ble_eq_true rfl) ?_
  show Run mi_An_knows d 0 0 0 [(0, .ref A), (1, .int (nI F))] [] (J, R, L, sh, N) _
  refine r_aload_n (x := some A) (pc2 := 1) d_An_knows_0 rfl rfl ?_
  refine q_getI (x := x) (pc2 := 4) d_An_knows_1 rfl k_An_28 (by decide) ((an_sh hS hA).1) hx ?_
  refine r_iload_n (pc2 := 5) d_An_knows_4 rfl rfl ?_
  refine q_calls (M2 := mi_X_hasBit) (pc2 := 8) d_An_knows_5 rfl k_An_31 cm_X_hasBit cs_X_hasBit rfl rfl (Nat.le_of_ble_eq_true rfl) (c_X_hasBit (x := x) (i := F) (by omega)) (d2 := d - 1) (by omega) (Nat.le_of_eq (Nat.zero_add _)) (Nat.le_of_eq (Nat.zero_add _)) ?_
  refine Run.ret (some (.int (bI (bt x F = true)))) d_An_knows_8 ⟨_, rfl, bI_01 _⟩ ?_
  exact ⟨rfl, rfl⟩
theorem c_An_variantOf {d : Nat} {J : Nat → Nat → Int32} {R : Nat → Nat → Option Nat} {L : Nat → Nat → Int64} {sh : Nat → Nat × Nat} {N : Nat} (hS : ShOK sh) (hR : RfOK R) {A : Nat} (hA : A = 718 ∨ A = 723) {F : Nat} (hF : F < 12) {x : Int32} (hx : J (A + 1) F = x) : Me mi_An_variantOf d 0 0 [.ref A, .int (nI F)] (J, R, L, sh, N) (some (.int x)) (J, R, L, sh, N) := by
  refine Mt.of pn_An (Nat.le_of_ble_eq_true rfl) ?_
  show Run mi_An_variantOf d 0 0 0 [(0, .ref A), (1, .int (nI F))] [] (J, R, L, sh, N) _
  refine r_iload_n (pc2 := 1) d_An_variantOf_0 rfl rfl ?_
  refine q_if_lt (tgt := 19) (A := ((F : Nat) : Int)) (pc2 := 4) d_An_variantOf_1 rfl rfl (nI_toInt (by omega)) (fun c1 => ?_) (fun c1 => ?_)
  · exfalso; omega
  refine r_iload_n (pc2 := 5) d_An_variantOf_4 rfl rfl ?_
  refine r_bipush (v := nI 12) (pc2 := 7) d_An_variantOf_5 rfl (by decide) ?_
  refine q_icmp_ge (tgt := 19) (A := ((F : Nat) : Int)) (B := (12 : Int)) (pc2 := 10) d_An_variantOf_7 rfl rfl (nI_toInt (by omega)) (nI_toInt (by omega)) (fun c2 => ?_) (fun c2 => ?_)
  · exfalso; omega
  · refine r_aload_n (x := some A) (pc2 := 11) d_An_variantOf_10 rfl rfl ?_
    refine q_getR (x := some (A + 1)) (pc2 := 14) d_An_variantOf_11 rfl k_An_9 rfl ((an_sh hS hA).1) ((an_rf hR hA).1) ?_
    refine r_iload_n (pc2 := 15) d_An_variantOf_14 rfl rfl ?_
    refine q_iaload (q := F) (x := x) (pc2 := 16) d_An_variantOf_15 rfl ((an_sh hS hA).2.1) (nI_toInt (by omega)) (by omega) hx ?_
    refine r_goto (tgt := 20) d_An_variantOf_16 rfl ?_
    refine Run.ret (some (.int x)) d_An_variantOf_20 ⟨_, rfl⟩ ?_
    first | (exfalso; omega) | exact ⟨rfl, rfl⟩
theorem c_An_put {d : Nat} {J : Nat → Nat → Int32} {R : Nat → Nat → Option Nat} {L : Nat → Nat → Int64} {sh : Nat → Nat × Nat} {N : Nat} (hS : ShOK sh) (hR : RfOK R) {An : Nat → Int32 × Int32 × Int32} {A : Nat} (hA : A = 718 ∨ A = 723) {I : Nat → Nat → Int32} (hJ : FrN sh A I J) {l : List Nat} (hAS : AS An A l J) {F : Nat} (hF : F < 12) (hl : F ∉ l) (hll : l.length < 12) (hl12 : ∀ x ∈ l, x < 12) {v b c : Int32} (he : An F = (v, b, c)) : Mt mi_An_put d 0 0 [.ref A, .int (nI F), .int v, .int b, .int c] (J, R, L, sh, N) (fun r h2 => r = none ∧ ∃ K, h2 = (K, R, L, sh, N) ∧ FrN sh A I K ∧ AS An A (l ++ [F]) K) := by
  refine Mt.of pn_An (Nat.le_of_ble_eq_true rfl) ?_
  show Run mi_An_put d 0 0 0 [(0, .ref A), (1, .int (nI F)), (2, .int v), (3, .int b), (4, .int c)] [] (J, R, L, sh, N) _
  refine r_iload_n (pc2 := 1) d_An_put_0 rfl rfl ?_
  refine q_if_lt (tgt := 19) (A := ((F : Nat) : Int)) (pc2 := 4) d_An_put_1 rfl rfl (nI_toInt (by omega)) (fun c1 => ?_) (fun c1 => ?_)
  · exfalso; omega
  refine r_iload_n (pc2 := 5) d_An_put_4 rfl rfl ?_
  refine r_bipush (v := nI 12) (pc2 := 7) d_An_put_5 rfl (by decide) ?_
  refine q_icmp_ge (tgt := 19) (A := ((F : Nat) : Int)) (B := (12 : Int)) (pc2 := 10) d_An_put_7 rfl rfl (nI_toInt (by omega)) (nI_toInt (by omega)) (fun c2 => ?_) (fun c2 => ?_)
  · exfalso; omega
  · refine r_aload_n (x := some A) (pc2 := 11) d_An_put_10 rfl rfl ?_
    refine q_getI (x := nI l.length) (pc2 := 14) d_An_put_11 rfl k_An_24 (by decide) ((an_sh hS hA).1) hAS.1 ?_
    refine r_bipush (v := nI 12) (pc2 := 16) d_An_put_14 rfl (by decide) ?_
    refine q_icmp_lt (tgt := 20) (A := ((l.length : Nat) : Int)) (B := (12 : Int)) (pc2 := 19) d_An_put_16 rfl rfl (nI_toInt (by omega)) (nI_toInt (by omega)) (fun c3 => ?_) (fun c3 => ?_)
    · refine r_aload_n (x := some A) (pc2 := 21) d_An_put_20 rfl rfl ?_
      refine q_getR (x := some (A + 1)) (pc2 := 24) d_An_put_21 rfl k_An_9 rfl ((an_sh hS hA).1) ((an_rf hR hA).1) ?_
      refine r_iload_n (pc2 := 25) d_An_put_24 rfl rfl ?_
      refine r_iload_n (pc2 := 26) d_An_put_25 rfl rfl ?_
      refine q_iastore (q := F) (pc2 := 27) d_An_put_26 rfl ((an_sh hS hA).2.1) (nI_toInt (by omega)) (by omega) (fun I4 hI4 => ?_)
      refine r_aload_n (x := some A) (pc2 := 28) d_An_put_27 rfl rfl ?_
      refine q_getR (x := some (A + 2)) (pc2 := 31) d_An_put_28 rfl k_An_15 rfl ((an_sh hS hA).1) ((an_rf hR hA).2.1) ?_
      refine r_iload_n (pc2 := 32) d_An_put_31 rfl rfl ?_
      refine r_iload_n (pc2 := 33) d_An_put_32 rfl rfl ?_
      refine q_iastore (q := F) (pc2 := 34) d_An_put_33 rfl ((an_sh hS hA).2.2.1) (nI_toInt (by omega)) (by omega) (fun I5 hI5 => ?_)
      refine r_aload_n (x := some A) (pc2 := 35) d_An_put_34 rfl rfl ?_
      refine q_getR (x := some (A + 3)) (pc2 := 38) d_An_put_35 rfl k_An_18 rfl ((an_sh hS hA).1) ((an_rf hR hA).2.2.1) ?_
      refine r_iload_n (pc2 := 39) d_An_put_38 rfl rfl ?_
      refine r_iload (pc2 := 41) d_An_put_39 rfl rfl ?_
      refine q_iastore (q := F) (pc2 := 42) d_An_put_41 rfl ((an_sh hS hA).2.2.2.1) (nI_toInt (by omega)) (by omega) (fun I6 hI6 => ?_)
      refine r_aload_n (x := some A) (pc2 := 43) d_An_put_42 rfl rfl ?_
      refine q_getR (x := some (A + 4)) (pc2 := 46) d_An_put_43 rfl k_An_21 rfl ((an_sh hS hA).1) ((an_rf hR hA).2.2.2) ?_
      refine r_aload_n (x := some A) (pc2 := 47) d_An_put_46 rfl rfl ?_
      refine q_getI (x := nI l.length) (pc2 := 50) d_An_put_47 rfl k_An_24 (by decide) ((an_sh hS hA).1) ((rd_ne hI6 (by omega)).trans ((rd_ne hI5 (by omega)).trans ((rd_ne hI4 (by omega)).trans (hAS.1)))) ?_
      refine r_iload_n (pc2 := 51) d_An_put_50 rfl rfl ?_
      refine q_iastore (q := l.length) (pc2 := 52) d_An_put_51 rfl ((an_sh hS hA).2.2.2.2) (nI_toInt (by omega)) (by omega) (fun I7 hI7 => ?_)
      refine r_aload_n (x := some A) (pc2 := 53) d_An_put_52 rfl rfl ?_
      refine r_dup (pc2 := 54) d_An_put_53 rfl rfl ?_
      refine q_getI (x := nI l.length) (pc2 := 57) d_An_put_54 rfl k_An_24 (by decide) ((an_sh hS hA).1) ((rd_ne hI7 (by omega)).trans ((rd_ne hI6 (by omega)).trans ((rd_ne hI5 (by omega)).trans ((rd_ne hI4 (by omega)).trans (hAS.1))))) ?_
      refine r_iconst (v := nI 1) (pc2 := 58) d_An_put_57 rfl (by decide) ?_
      refine q_iaddN (pc2 := 59) d_An_put_58 rfl ?_
      refine q_putI (pc2 := 62) d_An_put_59 rfl k_An_24 (Or.inl rfl) ((an_sh hS hA).1) (Or.inl rfl) (fun I8 hI8 => ?_)
      refine r_aload_n (x := some A) (pc2 := 63) d_An_put_62 rfl rfl ?_
      refine r_dup (pc2 := 64) d_An_put_63 rfl rfl ?_
      refine q_getI (x := J A 5) (pc2 := 67) d_An_put_64 rfl k_An_28 (by decide) ((an_sh hS hA).1) ((rd_nk hI8 (by decide)).trans ((rd_ne hI7 (by omega)).trans ((rd_ne hI6 (by omega)).trans ((rd_ne hI5 (by omega)).trans (rd_ne hI4 (by omega)))))) ?_
      refine r_iconst (v := nI 1) (pc2 := 68) d_An_put_67 rfl (by decide) ?_
      refine r_iload_n (pc2 := 69) d_An_put_68 rfl rfl ?_
      refine r_ishl (pc2 := 70) d_An_put_69 rfl ?_
      refine r_ior (pc2 := 71) d_An_put_70 rfl ?_
      refine q_putI (pc2 := 74) d_An_put_71 rfl k_An_28 (Or.inl rfl) ((an_sh hS hA).1) (Or.inl rfl) (fun I9 hI9 => ?_)
      refine Run.ret none d_An_put_74 rfl ?_
      exact ⟨rfl, _, rfl, ((((((hJ.put hI4 (by omega)).put hI5 (by omega)).put hI6 (by omega)).put hI7 (by omega)).put hI8 (by omega)).put hI9 (by omega)), hAS.put hF hl he hI4 hI5 hI6 hI7 hI8 hI9 hl12⟩
    · exfalso; omega
