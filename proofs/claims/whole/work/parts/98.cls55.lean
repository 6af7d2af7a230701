/-! THE READER: answers -/
/-! the answer, pure -/
def prt3 (T : Nat → Int32) (n h0 h1 h2 p : Nat) : Option (Nat × Nat × Nat) × Nat :=
  match nmb T n 3 p 0 h0 with
  | none => (none, p)
  | some (e, a) => if byt T n e ≠ 44 then (none, e) else (match nmb T n 3 (e + 1) 0 h1 with
    | none => (none, e + 1)
    | some (f, b) => if byt T n f ≠ 44 then (none, f) else (match nmb T n 3 (f + 1) 0 h2 with
      | none => (none, f + 1)
      | some (g, c) => (some (a, b, c), g)))
def hiT (top i : Nat) : Nat := if i < top then 333 else 0
def fxA (T : Nat → Int32) (n top p : Nat) : Option (Nat ⊕ (Nat × Nat × Nat)) × Nat := match nmb T n 1 p 0 top with
  | none => (none, p)
  | some (e, v) => (some (.inl v), e)
def pxA (T : Nat → Int32) (n h0 h1 h2 p : Nat) : Option (Nat ⊕ (Nat × Nat × Nat)) × Nat := match prt3 T n h0 h1 h2 p with
  | (none, q) => (none, q)
  | (some t, q) => (some (.inr t), q)
def anS (T : Nat → Int32) (n top p : Nat) : Option (Nat ⊕ (Nat × Nat × Nat)) × Nat :=
  if byt T n p = 58 then fxA T n top (p + 1)
  else if byt T n p = 37 then pxA T n (hiT top 0) (hiT top 1) (hiT top 2) (p + 1)
  else (none, p)
def rdR (T : Nat → Int32) (n top : Nat) : Option (List Nd × (Nat ⊕ (Nat × Nat × Nat))) × Nat := match rdC T n with
  | (none, q, _) => (none, q)
  | (some _, q, m) => match anS T n top q with
    | (none, q2) => (none, q2)
    | (some a, q2) => if q2 = n then (some (m, a), q2) else (none, q2)
theorem rdR_n {T : Nat → Int32} {n top q : Nat} {m : List Nd} (h : rdC T n = (none, q, m)) : rdR T n top = (none, q) := by unfold rdR; rw [h]
theorem rdR_a {T : Nat → Int32} {n top q t q2 : Nat} {m : List Nd} (h : rdC T n = (some t, q, m)) (h2 : anS T n top q = (none, q2)) : rdR T n top = (none, q2) := by unfold rdR; rw [h]; dsimp only; rw [h2]
theorem rdR_e {T : Nat → Int32} {n top q t q2 : Nat} {m : List Nd} {a : Nat ⊕ (Nat × Nat × Nat)} (h : rdC T n = (some t, q, m)) (h2 : anS T n top q = (some a, q2)) (h3 : q2 ≠ n) : rdR T n top = (none, q2) := by unfold rdR; rw [h]; dsimp only; rw [h2]; dsimp only; rw [if_neg h3]
theorem rdR_s {T : Nat → Int32} {n top q t q2 : Nat} {m : List Nd} {a : Nat ⊕ (Nat × Nat × Nat)} (h : rdC T n = (some t, q, m)) (h2 : anS T n top q = (some a, q2)) (h3 : q2 = n) : rdR T n top = (some (m, a), q2) := by unfold rdR; rw [h]; dsimp only; rw [h2]; dsimp only; rw [if_pos h3]
theorem ans_0 {T : Nat → Int32} {n top q : Nat} (h : ¬ (byt T n q = 58 ∨ byt T n q = 37)) : anS T n top q = (none, q) := by unfold anS; rw [if_neg (fun z => h (Or.inl z)), if_neg (fun z => h (Or.inr z))]
theorem RS.o7 {T : Nat → Int32} {n p : Nat} {due : Bool} {ob : Nat} {ns : List Nd} {W Lo : List Nat} {J K : Nat → Nat → Int32} (h : RS T n p due ob ns W Lo J) (e : ∀ a j, a ≠ 733 → ¬ (a = 731 ∧ j = 3) → K a j = J a j) : RS T n p due ob ns W Lo K := by
  obtain ⟨⟨a1, a2, a3, a4, a5, a6, a7⟩, h1, h2, h3, h4⟩ := h
  have g : ∀ a j, a ≠ 731 → a ≠ 733 → K a j = J a j := fun a j q r => e a j r (fun z => q z.1)
  have g2 : ∀ j, j ≠ 3 → K 731 j = J 731 j := fun j q => e 731 j (by decide) (fun z => q z.2)
  refine ⟨⟨(g2 _ (by decide)).trans a1, (g2 _ (by decide)).trans a2, (g2 _ (by decide)).trans a3, (g2 _ (by decide)).trans a4, (g2 _ (by decide)).trans a5, (g2 _ (by decide)).trans a6, (g2 _ (by decide)).trans a7⟩, fun j hj => ?_, LL_c h2 (fun j _ => g _ _ (by decide) (by decide)), LL_c h3 (fun j _ => g _ _ (by decide) (by decide)), fun j hj => (g _ _ (by decide) (by decide)).trans (h4 j hj)⟩
  rw [g 734 j (by decide) (by decide), g 735 j (by decide) (by decide), g 736 j (by decide) (by decide), g 737 j (by decide) (by decide)]
  exact h1 j hj
/-- the answer that has been read -/
def PAn (a : Nat ⊕ (Nat × Nat × Nat)) (K : Nat → Nat → Int32) : Prop := match a with
  | .inl v => K 731 3 = nI v
  | .inr (a, b, c) => K 731 3 = -1 ∧ K 733 0 = nI a ∧ K 733 1 = nI b ∧ K 733 2 = nI c
def AnP (T : Nat → Int32) (n : Nat) (ob : Nat) (ns : List Nd) (W Lo : List Nat) (r : Option (Nat ⊕ (Nat × Nat × Nat)) × Nat) (x : Option Value) (K : Nat → Nat → Int32) : Prop := match r with
  | (none, q) => x = some (.int (nI 0)) ∧ q ≤ n ∧ RS T n q false ob ns W Lo K
  | (some a, q) => x = some (.int (nI 1)) ∧ q ≤ n ∧ RS T n q false ob ns W Lo K ∧ PAn a K
theorem RfOK_731 {R R1 : Nat → Nat → Option Nat} {v : Option Nat} (h : RfOK R) (e : R1 = u2 R 731 0 v) : RfOK R1 := by
  have hx : ∀ x ∈ rfL, ¬ (x.1 = 731 ∧ x.2.1 = 0) := by decide +kernel
  have g : ∀ a j, a ≠ 731 → R1 a j = R a j := fun a j q => rd_ne e q
  obtain ⟨h1, h2, h3, h4⟩ := h
  refine ⟨fun x hm => ?_, fun d hd F hF => ?_, fun d hd F hF => ?_, fun d hd F hF r hr => ?_⟩
  · have hy := hx x hm
    by_cases q : x.1 = 731
    · rw [← h1 x hm, q]; exact rd_nk e (fun z => hy ⟨q, z⟩)
    · rw [g _ _ q]; exact h1 x hm
  · rw [g _ _ (by unfold dk; omega)]; exact h2 d hd F hF
  · rw [g _ _ (by unfold fe; omega), g _ _ (by unfold fe; omega), g _ _ (by unfold fe; omega), g _ _ (by unfold fe; omega), g _ _ (by unfold fe; omega), g _ _ (by unfold fe; omega)]; exact h3 d hd F hF
  · rw [g _ _ (by unfold fe; omega), g _ _ (by unfold ru fe; omega)]; exact h4 d hd F hF r hr
theorem c_Re_readFixed {d : Nat} {J : Nat → Nat → Int32} {R : Nat → Nat → Option Nat} {L : Nat → Nat → Int64} {sh : Nat → Nat × Nat} {N : Nat} (hS : ShOK sh) (hR : RfOK R) (hT0 : R 731 0 = some 730) {T : Nat → Int32} {n p : Nat} {ob : Nat} {ns : List Nd} {W Lo : List Nat} (hr : RS T n p false ob ns W Lo J) (hn : n ≤ 250) (hp : p ≤ n) {top : Nat} (ht : top ≤ 3) (hd : 2 ≤ d) : Mt mi_Re_readFixed d 0 0 [.ref 731, .int (nI top)] (J, R, L, sh, N) (fun x h2 => ∃ K, h2 = (K, R, L, sh, N) ∧ FrV J K ∧ AnP T n ob ns W Lo ((fxA T n top p)) x K) := by
  refine Mt.of pn_Re (Nat.le_of_ble_eq_true rfl) ?_
  show Run mi_Re_readFixed d 0 0 0 [(0, .ref 731), (1, .int (nI top))] [] (J, R, L, sh, N) _
  refine r_aload_n (x := some 731) (pc2 := 1) d_Re_readFixed_0 rfl rfl ?_
  refine q_getR (x := some 733) (pc2 := 4) d_Re_readFixed_1 rfl k_Re_25 rfl (sh_731 hS) (rf_731_4 hR) ?_
  refine r_iconst (v := nI 0) (pc2 := 5) d_Re_readFixed_4 rfl (by decide) ?_
  refine r_calls (M2 := mi_JA_fillI) (pc2 := 8) d_Re_readFixed_5 rfl k_Re_128 cm_JA_fillI cs_JA_fillI rfl rfl (Nat.le_of_ble_eq_true rfl) (c_JA_fillI (J := J) hS hR (A := 733) (sh_733 hS) (by omega) (v := nI 0)) (d2 := d - 1) (by omega) (Nat.le_of_eq (Nat.zero_add _)) (Nat.le_of_eq (Nat.zero_add _)) (fun r2 h2 hq2 => ?_)
  obtain ⟨rfl, K1, rfl, hK1⟩ := hq2
  have hrK1 := hr.o7 (fun a j q1 q2 => flR_o hK1 q1)
  have hfK1 : FrV J K1 := fun a j q => flR_o hK1 (by omega)
  refine r_aload_n (x := some 731) (pc2 := 9) d_Re_readFixed_8 rfl rfl ?_
  refine q_callv (M2 := mi_Re_isDigitHere) (pc2 := 12) d_Re_readFixed_9 rfl k_Re_111 cm_Re_isDigitHere cv_Re_isDigitHere (sh_731 hS) (by decide) rfl rfl rfl (Nat.le_of_ble_eq_true rfl) (c_Re_isDigitHere hS hR hT0 hrK1 hn (by omega)) (d2 := d - 1) (by omega) (Nat.le_of_eq (Nat.zero_add _)) (Nat.le_of_eq (Nat.zero_add _)) ?_
  refine q_bif_eq (tgt := 26) (pc2 := 15) d_Re_readFixed_12 rfl rfl (fun c2 => ?_) (fun c2 => ?_)
  · refine r_iconst (v := nI 0) (pc2 := 27) d_Re_readFixed_26 rfl (by decide) ?_
    refine Run.ret (some (.int (nI 0))) d_Re_readFixed_27 ⟨_, rfl, by decide⟩ ?_
    have e_ : fxA T n top p = (none, p) := by unfold fxA; rw [nmb_1, if_neg (by omega)]
    exact ⟨_, rfl, (FrV.rf.t hfK1), by rw [e_]; exact ⟨rfl, by omega, hrK1⟩⟩
  · refine r_aload_n (x := some 731) (pc2 := 16) d_Re_readFixed_15 rfl rfl ?_
    refine q_callv (M2 := mi_Re_letterHere) (pc2 := 19) d_Re_readFixed_16 rfl k_Re_107 cm_Re_letterHere cv_Re_letterHere (sh_731 hS) (by decide) rfl rfl rfl (Nat.le_of_ble_eq_true rfl) (c_Re_letterHere hS hR hT0 hrK1 hn (by omega)) (d2 := d - 1) (by omega) (Nat.le_of_eq (Nat.zero_add _)) (Nat.le_of_eq (Nat.zero_add _)) ?_
    refine r_bipush (v := nI 48) (pc2 := 21) d_Re_readFixed_19 rfl (by decide) ?_
    refine q_isubV (pc2 := 22) d_Re_readFixed_21 rfl (A := byt T n p) (B := (48 : Int)) (ltr_i) (nI_toInt (by omega)) (by constructor <;> omega) (fun y3 ey3 hy3 => ?_)
    refine r_iload_n (pc2 := 23) d_Re_readFixed_22 rfl rfl ?_
    refine q_icmp_le (tgt := 28) (A := byt T n p - (48 : Int)) (B := ((top : Nat) : Int)) (pc2 := 26) d_Re_readFixed_23 rfl rfl (hy3) (nI_toInt (by omega)) (fun c4 => ?_) (fun c4 => ?_)
    · refine r_aload_n (x := some 731) (pc2 := 29) d_Re_readFixed_28 rfl rfl ?_
      refine r_aload_n (x := some 731) (pc2 := 30) d_Re_readFixed_29 rfl rfl ?_
      refine q_callv (M2 := mi_Re_letterHere) (pc2 := 33) d_Re_readFixed_30 rfl k_Re_107 cm_Re_letterHere cv_Re_letterHere (sh_731 hS) (by decide) rfl rfl rfl (Nat.le_of_ble_eq_true rfl) (c_Re_letterHere hS hR hT0 hrK1 hn (by omega)) (d2 := d - 1) (by omega) (Nat.le_of_eq (Nat.zero_add _)) (Nat.le_of_eq (Nat.zero_add _)) ?_
      refine r_bipush (v := nI 48) (pc2 := 35) d_Re_readFixed_33 rfl (by decide) ?_
      refine q_isubV (pc2 := 36) d_Re_readFixed_35 rfl (A := byt T n p) (B := (48 : Int)) (ltr_i) (nI_toInt (by omega)) (by constructor <;> omega) (fun y5 ey5 hy5 => ?_)
      refine q_top (y := nI ((byt T n p).toNat - 48)) (eq_nI (by rw [hy5]; omega)) ?_
      refine q_putI (pc2 := 39) d_Re_readFixed_36 rfl k_Re_22 (Or.inl rfl) (sh_731 hS) (Or.inl rfl) (fun I6 hI6 => ?_)
      have hr7 := hrK1.o7 (fun a j q1 q2 => by
        by_cases y : a = 731
        · subst y; exact rd_nk hI6 (fun z => q2 ⟨rfl, z⟩)
        · exact rd_ne hI6 y)
      refine r_aload_n (x := some 731) (pc2 := 40) d_Re_readFixed_39 rfl rfl ?_
      refine r_dup (pc2 := 41) d_Re_readFixed_40 rfl rfl ?_
      refine q_getI (x := nI p) (pc2 := 44) d_Re_readFixed_41 rfl k_Re_19 (by decide) (sh_731 hS) hr7.1.2.1 ?_
      refine r_iconst (v := nI 1) (pc2 := 45) d_Re_readFixed_44 rfl (by decide) ?_
      refine q_iaddN (pc2 := 46) d_Re_readFixed_45 rfl ?_
      refine q_putI (pc2 := 49) d_Re_readFixed_46 rfl k_Re_19 (Or.inl rfl) (sh_731 hS) (Or.inl rfl) (fun I8 hI8 => ?_)
      have hr9 := hr7.pl (q := p + 1) hI8
      refine r_iconst (v := nI 1) (pc2 := 50) d_Re_readFixed_49 rfl (by decide) ?_
      refine Run.ret (some (.int (nI 1))) d_Re_readFixed_50 ⟨_, rfl, by decide⟩ ?_
      have e_ : fxA T n top p = (some (.inl ((byt T n p).toNat - 48)), p + 1) := by unfold fxA; rw [nmb_1, if_pos (by omega)]
      have hl1 : p < n := byt_lt (T := T) (by omega)
      exact ⟨_, rfl, (((FrV.rf.t hfK1).p hI6 (by decide)).p hI8 (by decide)), by rw [e_]; exact ⟨rfl, by omega, hr9, (rd_nk hI8 (by decide)).trans (rd_eq hI6)⟩⟩
    · refine r_iconst (v := nI 0) (pc2 := 27) d_Re_readFixed_26 rfl (by decide) ?_
      refine Run.ret (some (.int (nI 0))) d_Re_readFixed_27 ⟨_, rfl, by decide⟩ ?_
      have e_ : fxA T n top p = (none, p) := by unfold fxA; rw [nmb_1, if_neg (by omega)]
      exact ⟨_, rfl, (FrV.rf.t hfK1), by rw [e_]; exact ⟨rfl, by omega, hrK1⟩⟩
theorem c_Re_readParts_1 {d : Nat} {J : Nat → Nat → Int32} {R : Nat → Nat → Option Nat} {L : Nat → Nat → Int64} {sh : Nat → Nat × Nat} {N : Nat} (hS : ShOK sh) (hR : RfOK R) (hT0 : R 731 0 = some 730) {T : Nat → Int32} {n p : Nat} {ob : Nat} {ns : List Nd} {W Lo : List Nat} (hr : RS T n p false ob ns W Lo J) (hn : n ≤ 250) (hp : p ≤ n) (hd : 2 ≤ d) : Mt mi_Re_readParts d 0 0 [.ref 731, .int (nI 1)] (J, R, L, sh, N) (fun x h2 => ∃ K, h2 = (K, R, L, sh, N) ∧ FrV J K ∧ AnP T n ob ns W Lo ((pxA T n 333 0 0 p)) x K) := by
  refine Mt.of pn_Re (Nat.le_of_ble_eq_true rfl) ?_
  show Run mi_Re_readParts d 0 0 0 [(0, .ref 731), (1, .int (nI 1))] [] (J, R, L, sh, N) _
  refine r_aload_n (x := some 731) (pc2 := 1) d_Re_readParts_0 rfl rfl ?_
  refine r_iconst (v := (-1 : Int32)) (pc2 := 2) d_Re_readParts_1 rfl (by decide) ?_
  refine q_putI (pc2 := 5) d_Re_readParts_2 rfl k_Re_22 (Or.inl rfl) (sh_731 hS) (Or.inl rfl) (fun I1 hI1 => ?_)
  have hr2 := hr.o7 (fun a j q1 q2 => by
    by_cases y : a = 731
    · subst y; exact rd_nk hI1 (fun z => q2 ⟨rfl, z⟩)
    · exact rd_ne hI1 y)
  refine r_iconst (v := nI 0) (pc2 := 6) d_Re_readParts_5 rfl (by decide) ?_
  refine r_istore_n (pc2 := 7) d_Re_readParts_6 rfl rfl (Nat.le_of_ble_eq_true rfl) ?_
  refine r_iload_n (pc2 := 8) d_Re_readParts_7 rfl rfl ?_
  refine r_iconst (v := nI 3) (pc2 := 9) d_Re_readParts_8 rfl (by decide) ?_
  refine q_icmp_ge (tgt := 76) (A := (0 : Int)) (B := (3 : Int)) (pc2 := 12) d_Re_readParts_9 rfl rfl (nI_toInt (by omega)) (nI_toInt (by omega)) (fun c3 => ?_) (fun c3 => ?_)
  · exfalso; omega
  refine r_iload_n (pc2 := 13) d_Re_readParts_12 rfl rfl ?_
  refine q_if_le (tgt := 37) (A := (0 : Int)) (pc2 := 16) d_Re_readParts_13 rfl rfl (nI_toInt (by omega)) (fun c4 => ?_) (fun c4 => ?_)
  rotate_left
  · exfalso; omega
  refine r_aload_n (x := some 731) (pc2 := 38) d_Re_readParts_37 rfl rfl ?_
  refine r_iconst (v := nI 3) (pc2 := 39) d_Re_readParts_38 rfl (by decide) ?_
  refine r_iconst (v := nI 0) (pc2 := 40) d_Re_readParts_39 rfl (by decide) ?_
  refine r_iload_n (pc2 := 41) d_Re_readParts_40 rfl rfl ?_
  refine r_iload_n (pc2 := 42) d_Re_readParts_41 rfl rfl ?_
  refine q_icmp_ge (tgt := 51) (A := (0 : Int)) (B := (1 : Int)) (pc2 := 45) d_Re_readParts_42 rfl rfl (nI_toInt (by omega)) (nI_toInt (by omega)) (fun c5 => ?_) (fun c5 => ?_)
  · exfalso; omega
  refine r_sipush (v := nI 333) (pc2 := 48) d_Re_readParts_45 rfl (by decide) ?_
  refine r_goto (tgt := 52) d_Re_readParts_48 rfl ?_
  refine r_callv (M2 := mi_Re_readNumber) (pc2 := 55) d_Re_readParts_52 rfl k_Re_115 cm_Re_readNumber cv_Re_readNumber (sh_731 hS) (by decide) rfl rfl rfl (Nat.le_of_ble_eq_true rfl) (c_Re_readNumber hS hR hT0 hr2 hn (by omega) (m := 3) (lo := 0) (hi := 333) (by omega) (by omega) (by omega) (by omega)) (d2 := d - 1) (by omega) (Nat.le_of_eq (Nat.zero_add _)) (Nat.le_of_eq (Nat.zero_add _)) (fun r2 h2 hq2 => ?_)
  obtain ⟨K6, rfl, hfK6, hmK6⟩ := hq2
  cases hoK6 : nmb T n 3 p 0 333 with
  | none =>
    rw [hoK6] at hmK6
    obtain ⟨rfl, hrK6⟩ := hmK6
    refine r_istore_n (pc2 := 56) d_Re_readParts_55 rfl rfl (Nat.le_of_ble_eq_true rfl) ?_
    refine r_iload_n (pc2 := 57) d_Re_readParts_56 rfl rfl ?_
    refine r_iconst (v := (-1 : Int32)) (pc2 := 58) d_Re_readParts_57 rfl (by decide) ?_
    refine q_icmp_ne (tgt := 63) (A := (-1 : Int)) (B := (-1 : Int)) (pc2 := 61) d_Re_readParts_58 rfl rfl (by decide) (by decide) (fun c7 => ?_) (fun c7 => ?_)
    · exfalso; omega
    refine r_iconst (v := nI 0) (pc2 := 62) d_Re_readParts_61 rfl (by decide) ?_
    refine Run.ret (some (.int (nI 0))) d_Re_readParts_62 ⟨_, rfl, by decide⟩ ?_
    have e_ : prt3 T n 333 0 0 p = (none, p) := by unfold prt3; rw [hoK6]
    exact ⟨_, rfl, ((FrV.rf.p hI1 (by decide)).t hfK6.v), by unfold pxA; rw [e_]; exact ⟨rfl, by omega, hrK6⟩⟩
  | some rK6 =>
    obtain ⟨eK6, vK6⟩ := rK6
    rw [hoK6] at hmK6
    obtain ⟨rfl, hrK6⟩ := hmK6
    have hnbK6 := nmb_p (by omega) hoK6
    refine r_istore_n (pc2 := 56) d_Re_readParts_55 rfl rfl (Nat.le_of_ble_eq_true rfl) ?_
    refine r_iload_n (pc2 := 57) d_Re_readParts_56 rfl rfl ?_
    refine r_iconst (v := (-1 : Int32)) (pc2 := 58) d_Re_readParts_57 rfl (by decide) ?_
    refine q_icmp_ne (tgt := 63) (A := ((vK6 : Nat) : Int)) (B := (-1 : Int)) (pc2 := 61) d_Re_readParts_58 rfl rfl (nI_toInt (by omega)) (by decide) (fun c8 => ?_) (fun c8 => ?_)
    rotate_left
    · exfalso; omega
    refine r_aload_n (x := some 731) (pc2 := 64) d_Re_readParts_63 rfl rfl ?_
    refine q_getR (x := some 733) (pc2 := 67) d_Re_readParts_64 rfl k_Re_25 rfl (sh_731 hS) (rf_731_4 hR) ?_
    refine r_iload_n (pc2 := 68) d_Re_readParts_67 rfl rfl ?_
    refine r_iload_n (pc2 := 69) d_Re_readParts_68 rfl rfl ?_
    refine q_iastore (q := 0) (pc2 := 70) d_Re_readParts_69 rfl (sh_733 hS) (nI_toInt (by omega)) (by omega) (fun I9 hI9 => ?_)
    have hr10 := hrK6.o7 (fun a j q1 q2 => rd_ne hI9 q1)
    refine q_iinc (b := 1) (pc2 := 73) d_Re_readParts_70 rfl rfl (by decide) (Nat.le_of_ble_eq_true rfl) ?_
    refine r_goto (tgt := 7) d_Re_readParts_73 rfl ?_
    refine r_iload_n (pc2 := 8) d_Re_readParts_7 rfl rfl ?_
    refine r_iconst (v := nI 3) (pc2 := 9) d_Re_readParts_8 rfl (by decide) ?_
    refine q_icmp_ge (tgt := 76) (A := (1 : Int)) (B := (3 : Int)) (pc2 := 12) d_Re_readParts_9 rfl rfl (nI_toInt (by omega)) (nI_toInt (by omega)) (fun c11 => ?_) (fun c11 => ?_)
    · exfalso; omega
    refine r_iload_n (pc2 := 13) d_Re_readParts_12 rfl rfl ?_
    refine q_if_le (tgt := 37) (A := (1 : Int)) (pc2 := 16) d_Re_readParts_13 rfl rfl (nI_toInt (by omega)) (fun c12 => ?_) (fun c12 => ?_)
    · exfalso; omega
    refine r_aload_n (x := some 731) (pc2 := 17) d_Re_readParts_16 rfl rfl ?_
    refine q_callv (M2 := mi_Re_letterHere) (pc2 := 20) d_Re_readParts_17 rfl k_Re_107 cm_Re_letterHere cv_Re_letterHere (sh_731 hS) (by decide) rfl rfl rfl (Nat.le_of_ble_eq_true rfl) (c_Re_letterHere hS hR hT0 hr10 hn (by omega)) (d2 := d - 1) (by omega) (Nat.le_of_eq (Nat.zero_add _)) (Nat.le_of_eq (Nat.zero_add _)) ?_
    refine r_bipush (v := nI 44) (pc2 := 22) d_Re_readParts_20 rfl (by decide) ?_
    refine q_icmp_eq (tgt := 27) (A := byt T n eK6) (B := (44 : Int)) (pc2 := 25) d_Re_readParts_22 rfl rfl (ltr_i) (nI_toInt (by omega)) (fun c13 => ?_) (fun c13 => ?_)
    · have hlI9 : eK6 < n := byt_lt (T := T) (by omega)
      refine r_aload_n (x := some 731) (pc2 := 28) d_Re_readParts_27 rfl rfl ?_
      refine r_dup (pc2 := 29) d_Re_readParts_28 rfl rfl ?_
      refine q_getI (x := nI eK6) (pc2 := 32) d_Re_readParts_29 rfl k_Re_19 (by decide) (sh_731 hS) hr10.1.2.1 ?_
      refine r_iconst (v := nI 1) (pc2 := 33) d_Re_readParts_32 rfl (by decide) ?_
      refine q_iaddN (pc2 := 34) d_Re_readParts_33 rfl ?_
      refine q_putI (pc2 := 37) d_Re_readParts_34 rfl k_Re_19 (Or.inl rfl) (sh_731 hS) (Or.inl rfl) (fun I14 hI14 => ?_)
      have hr15 := hr10.pl (q := eK6 + 1) hI14
      refine r_aload_n (x := some 731) (pc2 := 38) d_Re_readParts_37 rfl rfl ?_
      refine r_iconst (v := nI 3) (pc2 := 39) d_Re_readParts_38 rfl (by decide) ?_
      refine r_iconst (v := nI 0) (pc2 := 40) d_Re_readParts_39 rfl (by decide) ?_
      refine r_iload_n (pc2 := 41) d_Re_readParts_40 rfl rfl ?_
      refine r_iload_n (pc2 := 42) d_Re_readParts_41 rfl rfl ?_
      refine q_icmp_ge (tgt := 51) (A := (1 : Int)) (B := (1 : Int)) (pc2 := 45) d_Re_readParts_42 rfl rfl (nI_toInt (by omega)) (nI_toInt (by omega)) (fun c16 => ?_) (fun c16 => ?_)
      rotate_left
      · exfalso; omega
      refine r_iconst (v := nI 0) (pc2 := 52) d_Re_readParts_51 rfl (by decide) ?_
      refine r_callv (M2 := mi_Re_readNumber) (pc2 := 55) d_Re_readParts_52 rfl k_Re_115 cm_Re_readNumber cv_Re_readNumber (sh_731 hS) (by decide) rfl rfl rfl (Nat.le_of_ble_eq_true rfl) (c_Re_readNumber hS hR hT0 hr15 hn (by omega) (m := 3) (lo := 0) (hi := 0) (by omega) (by omega) (by omega) (by omega)) (d2 := d - 1) (by omega) (Nat.le_of_eq (Nat.zero_add _)) (Nat.le_of_eq (Nat.zero_add _)) (fun r2 h2 hq2 => ?_)
      obtain ⟨K17, rfl, hfK17, hmK17⟩ := hq2
      cases hoK17 : nmb T n 3 (eK6 + 1) 0 0 with
      | none =>
        rw [hoK17] at hmK17
        obtain ⟨rfl, hrK17⟩ := hmK17
        refine r_istore_n (pc2 := 56) d_Re_readParts_55 rfl rfl (Nat.le_of_ble_eq_true rfl) ?_
        refine r_iload_n (pc2 := 57) d_Re_readParts_56 rfl rfl ?_
        refine r_iconst (v := (-1 : Int32)) (pc2 := 58) d_Re_readParts_57 rfl (by decide) ?_
        refine q_icmp_ne (tgt := 63) (A := (-1 : Int)) (B := (-1 : Int)) (pc2 := 61) d_Re_readParts_58 rfl rfl (by decide) (by decide) (fun c18 => ?_) (fun c18 => ?_)
        · exfalso; omega
        refine r_iconst (v := nI 0) (pc2 := 62) d_Re_readParts_61 rfl (by decide) ?_
        refine Run.ret (some (.int (nI 0))) d_Re_readParts_62 ⟨_, rfl, by decide⟩ ?_
        have e_ : prt3 T n 333 0 0 p = (none, eK6 + 1) := by unfold prt3; rw [hoK6]; dsimp only; rw [if_neg (show ¬ (byt T n eK6 ≠ 44) by omega), hoK17]
        exact ⟨_, rfl, (((((FrV.rf.p hI1 (by decide)).t hfK6.v).p hI9 (by decide)).p hI14 (by decide)).t hfK17.v), by unfold pxA; rw [e_]; exact ⟨rfl, by omega, hrK17⟩⟩
      | some rK17 =>
        obtain ⟨eK17, vK17⟩ := rK17
        rw [hoK17] at hmK17
        obtain ⟨rfl, hrK17⟩ := hmK17
        have hnbK17 := nmb_p (by omega) hoK17
        refine r_istore_n (pc2 := 56) d_Re_readParts_55 rfl rfl (Nat.le_of_ble_eq_true rfl) ?_
        refine r_iload_n (pc2 := 57) d_Re_readParts_56 rfl rfl ?_
        refine r_iconst (v := (-1 : Int32)) (pc2 := 58) d_Re_readParts_57 rfl (by decide) ?_
        refine q_icmp_ne (tgt := 63) (A := ((vK17 : Nat) : Int)) (B := (-1 : Int)) (pc2 := 61) d_Re_readParts_58 rfl rfl (nI_toInt (by omega)) (by decide) (fun c19 => ?_) (fun c19 => ?_)
        rotate_left
        · exfalso; omega
        refine r_aload_n (x := some 731) (pc2 := 64) d_Re_readParts_63 rfl rfl ?_
        refine q_getR (x := some 733) (pc2 := 67) d_Re_readParts_64 rfl k_Re_25 rfl (sh_731 hS) (rf_731_4 hR) ?_
        refine r_iload_n (pc2 := 68) d_Re_readParts_67 rfl rfl ?_
        refine r_iload_n (pc2 := 69) d_Re_readParts_68 rfl rfl ?_
        refine q_iastore (q := 1) (pc2 := 70) d_Re_readParts_69 rfl (sh_733 hS) (nI_toInt (by omega)) (by omega) (fun I20 hI20 => ?_)
        have hr21 := hrK17.o7 (fun a j q1 q2 => rd_ne hI20 q1)
        refine q_iinc (b := 1) (pc2 := 73) d_Re_readParts_70 rfl rfl (by decide) (Nat.le_of_ble_eq_true rfl) ?_
        refine r_goto (tgt := 7) d_Re_readParts_73 rfl ?_
        refine r_iload_n (pc2 := 8) d_Re_readParts_7 rfl rfl ?_
        refine r_iconst (v := nI 3) (pc2 := 9) d_Re_readParts_8 rfl (by decide) ?_
        refine q_icmp_ge (tgt := 76) (A := (2 : Int)) (B := (3 : Int)) (pc2 := 12) d_Re_readParts_9 rfl rfl (nI_toInt (by omega)) (nI_toInt (by omega)) (fun c22 => ?_) (fun c22 => ?_)
        · exfalso; omega
        refine r_iload_n (pc2 := 13) d_Re_readParts_12 rfl rfl ?_
        refine q_if_le (tgt := 37) (A := (2 : Int)) (pc2 := 16) d_Re_readParts_13 rfl rfl (nI_toInt (by omega)) (fun c23 => ?_) (fun c23 => ?_)
        · exfalso; omega
        refine r_aload_n (x := some 731) (pc2 := 17) d_Re_readParts_16 rfl rfl ?_
        refine q_callv (M2 := mi_Re_letterHere) (pc2 := 20) d_Re_readParts_17 rfl k_Re_107 cm_Re_letterHere cv_Re_letterHere (sh_731 hS) (by decide) rfl rfl rfl (Nat.le_of_ble_eq_true rfl) (c_Re_letterHere hS hR hT0 hr21 hn (by omega)) (d2 := d - 1) (by omega) (Nat.le_of_eq (Nat.zero_add _)) (Nat.le_of_eq (Nat.zero_add _)) ?_
        refine r_bipush (v := nI 44) (pc2 := 22) d_Re_readParts_20 rfl (by decide) ?_
        refine q_icmp_eq (tgt := 27) (A := byt T n eK17) (B := (44 : Int)) (pc2 := 25) d_Re_readParts_22 rfl rfl (ltr_i) (nI_toInt (by omega)) (fun c24 => ?_) (fun c24 => ?_)
        · have hlI20 : eK17 < n := byt_lt (T := T) (by omega)
          refine r_aload_n (x := some 731) (pc2 := 28) d_Re_readParts_27 rfl rfl ?_
          refine r_dup (pc2 := 29) d_Re_readParts_28 rfl rfl ?_
          refine q_getI (x := nI eK17) (pc2 := 32) d_Re_readParts_29 rfl k_Re_19 (by decide) (sh_731 hS) hr21.1.2.1 ?_
          refine r_iconst (v := nI 1) (pc2 := 33) d_Re_readParts_32 rfl (by decide) ?_
          refine q_iaddN (pc2 := 34) d_Re_readParts_33 rfl ?_
          refine q_putI (pc2 := 37) d_Re_readParts_34 rfl k_Re_19 (Or.inl rfl) (sh_731 hS) (Or.inl rfl) (fun I25 hI25 => ?_)
          have hr26 := hr21.pl (q := eK17 + 1) hI25
          refine r_aload_n (x := some 731) (pc2 := 38) d_Re_readParts_37 rfl rfl ?_
          refine r_iconst (v := nI 3) (pc2 := 39) d_Re_readParts_38 rfl (by decide) ?_
          refine r_iconst (v := nI 0) (pc2 := 40) d_Re_readParts_39 rfl (by decide) ?_
          refine r_iload_n (pc2 := 41) d_Re_readParts_40 rfl rfl ?_
          refine r_iload_n (pc2 := 42) d_Re_readParts_41 rfl rfl ?_
          refine q_icmp_ge (tgt := 51) (A := (2 : Int)) (B := (1 : Int)) (pc2 := 45) d_Re_readParts_42 rfl rfl (nI_toInt (by omega)) (nI_toInt (by omega)) (fun c27 => ?_) (fun c27 => ?_)
          rotate_left
          · exfalso; omega
          refine r_iconst (v := nI 0) (pc2 := 52) d_Re_readParts_51 rfl (by decide) ?_
          refine r_callv (M2 := mi_Re_readNumber) (pc2 := 55) d_Re_readParts_52 rfl k_Re_115 cm_Re_readNumber cv_Re_readNumber (sh_731 hS) (by decide) rfl rfl rfl (Nat.le_of_ble_eq_true rfl) (c_Re_readNumber hS hR hT0 hr26 hn (by omega) (m := 3) (lo := 0) (hi := 0) (by omega) (by omega) (by omega) (by omega)) (d2 := d - 1) (by omega) (Nat.le_of_eq (Nat.zero_add _)) (Nat.le_of_eq (Nat.zero_add _)) (fun r2 h2 hq2 => ?_)
          obtain ⟨K28, rfl, hfK28, hmK28⟩ := hq2
          cases hoK28 : nmb T n 3 (eK17 + 1) 0 0 with
          | none =>
            rw [hoK28] at hmK28
            obtain ⟨rfl, hrK28⟩ := hmK28
            refine r_istore_n (pc2 := 56) d_Re_readParts_55 rfl rfl (Nat.le_of_ble_eq_true rfl) ?_
            refine r_iload_n (pc2 := 57) d_Re_readParts_56 rfl rfl ?_
            refine r_iconst (v := (-1 : Int32)) (pc2 := 58) d_Re_readParts_57 rfl (by decide) ?_
            refine q_icmp_ne (tgt := 63) (A := (-1 : Int)) (B := (-1 : Int)) (pc2 := 61) d_Re_readParts_58 rfl rfl (by decide) (by decide) (fun c29 => ?_) (fun c29 => ?_)
            · exfalso; omega
            refine r_iconst (v := nI 0) (pc2 := 62) d_Re_readParts_61 rfl (by decide) ?_
            refine Run.ret (some (.int (nI 0))) d_Re_readParts_62 ⟨_, rfl, by decide⟩ ?_
            have e_ : prt3 T n 333 0 0 p = (none, eK17 + 1) := by unfold prt3; rw [hoK6]; dsimp only; rw [if_neg (show ¬ (byt T n eK6 ≠ 44) by omega), hoK17]; dsimp only; rw [if_neg (show ¬ (byt T n eK17 ≠ 44) by omega), hoK28]
            exact ⟨_, rfl, ((((((((FrV.rf.p hI1 (by decide)).t hfK6.v).p hI9 (by decide)).p hI14 (by decide)).t hfK17.v).p hI20 (by decide)).p hI25 (by decide)).t hfK28.v), by unfold pxA; rw [e_]; exact ⟨rfl, by omega, hrK28⟩⟩
          | some rK28 =>
            obtain ⟨eK28, vK28⟩ := rK28
            rw [hoK28] at hmK28
            obtain ⟨rfl, hrK28⟩ := hmK28
            have hnbK28 := nmb_p (by omega) hoK28
            refine r_istore_n (pc2 := 56) d_Re_readParts_55 rfl rfl (Nat.le_of_ble_eq_true rfl) ?_
            refine r_iload_n (pc2 := 57) d_Re_readParts_56 rfl rfl ?_
            refine r_iconst (v := (-1 : Int32)) (pc2 := 58) d_Re_readParts_57 rfl (by decide) ?_
            refine q_icmp_ne (tgt := 63) (A := ((vK28 : Nat) : Int)) (B := (-1 : Int)) (pc2 := 61) d_Re_readParts_58 rfl rfl (nI_toInt (by omega)) (by decide) (fun c30 => ?_) (fun c30 => ?_)
            rotate_left
            · exfalso; omega
            refine r_aload_n (x := some 731) (pc2 := 64) d_Re_readParts_63 rfl rfl ?_
            refine q_getR (x := some 733) (pc2 := 67) d_Re_readParts_64 rfl k_Re_25 rfl (sh_731 hS) (rf_731_4 hR) ?_
            refine r_iload_n (pc2 := 68) d_Re_readParts_67 rfl rfl ?_
            refine r_iload_n (pc2 := 69) d_Re_readParts_68 rfl rfl ?_
            refine q_iastore (q := 2) (pc2 := 70) d_Re_readParts_69 rfl (sh_733 hS) (nI_toInt (by omega)) (by omega) (fun I31 hI31 => ?_)
            have hr32 := hrK28.o7 (fun a j q1 q2 => rd_ne hI31 q1)
            refine q_iinc (b := 1) (pc2 := 73) d_Re_readParts_70 rfl rfl (by decide) (Nat.le_of_ble_eq_true rfl) ?_
            refine r_goto (tgt := 7) d_Re_readParts_73 rfl ?_
            refine r_iload_n (pc2 := 8) d_Re_readParts_7 rfl rfl ?_
            refine r_iconst (v := nI 3) (pc2 := 9) d_Re_readParts_8 rfl (by decide) ?_
            refine q_icmp_ge (tgt := 76) (A := (3 : Int)) (B := (3 : Int)) (pc2 := 12) d_Re_readParts_9 rfl rfl (nI_toInt (by omega)) (nI_toInt (by omega)) (fun c33 => ?_) (fun c33 => ?_)
            rotate_left
            · exfalso; omega
            refine r_iconst (v := nI 1) (pc2 := 77) d_Re_readParts_76 rfl (by decide) ?_
            refine Run.ret (some (.int (nI 1))) d_Re_readParts_77 ⟨_, rfl, by decide⟩ ?_
            have e_ : prt3 T n 333 0 0 p = (some (vK6, vK17, vK28), eK28) := by unfold prt3; rw [hoK6]; dsimp only; rw [if_neg (show ¬ (byt T n eK6 ≠ 44) by omega), hoK17]; dsimp only; rw [if_neg (show ¬ (byt T n eK17 ≠ 44) by omega), hoK28]
            exact ⟨_, rfl, (((((((((FrV.rf.p hI1 (by decide)).t hfK6.v).p hI9 (by decide)).p hI14 (by decide)).t hfK17.v).p hI20 (by decide)).p hI25 (by decide)).t hfK28.v).p hI31 (by decide)), by unfold pxA; rw [e_]; exact ⟨rfl, by omega, hr32, (rd_ne hI31 (by decide)).trans ((hfK28 731 3 (by decide)).trans ((rd_nk hI25 (by decide)).trans ((rd_ne hI20 (by decide)).trans ((hfK17 731 3 (by decide)).trans ((rd_nk hI14 (by decide)).trans ((rd_ne hI9 (by decide)).trans ((hfK6 731 3 (by decide)).trans (rd_eq hI1)))))))), (rd_nk hI31 (by decide)).trans ((hfK28 733 0 (by decide)).trans ((rd_ne hI25 (by decide)).trans ((rd_nk hI20 (by decide)).trans ((hfK17 733 0 (by decide)).trans ((rd_ne hI14 (by decide)).trans (rd_eq hI9)))))), (rd_nk hI31 (by decide)).trans ((hfK28 733 1 (by decide)).trans ((rd_ne hI25 (by decide)).trans (rd_eq hI20))), rd_eq hI31⟩⟩
        · refine r_iconst (v := nI 0) (pc2 := 26) d_Re_readParts_25 rfl (by decide) ?_
          refine Run.ret (some (.int (nI 0))) d_Re_readParts_26 ⟨_, rfl, by decide⟩ ?_
          have e_ : prt3 T n 333 0 0 p = (none, eK17) := by unfold prt3; rw [hoK6]; dsimp only; rw [if_neg (show ¬ (byt T n eK6 ≠ 44) by omega), hoK17]; dsimp only; rw [if_pos (by omega)]
          exact ⟨_, rfl, ((((((FrV.rf.p hI1 (by decide)).t hfK6.v).p hI9 (by decide)).p hI14 (by decide)).t hfK17.v).p hI20 (by decide)), by unfold pxA; rw [e_]; exact ⟨rfl, by omega, hr21⟩⟩
    · refine r_iconst (v := nI 0) (pc2 := 26) d_Re_readParts_25 rfl (by decide) ?_
      refine Run.ret (some (.int (nI 0))) d_Re_readParts_26 ⟨_, rfl, by decide⟩ ?_
      have e_ : prt3 T n 333 0 0 p = (none, eK6) := by unfold prt3; rw [hoK6]; dsimp only; rw [if_pos (by omega)]
      exact ⟨_, rfl, (((FrV.rf.p hI1 (by decide)).t hfK6.v).p hI9 (by decide)), by unfold pxA; rw [e_]; exact ⟨rfl, by omega, hr10⟩⟩
theorem c_Re_readParts_2 {d : Nat} {J : Nat → Nat → Int32} {R : Nat → Nat → Option Nat} {L : Nat → Nat → Int64} {sh : Nat → Nat × Nat} {N : Nat} (hS : ShOK sh) (hR : RfOK R) (hT0 : R 731 0 = some 730) {T : Nat → Int32} {n p : Nat} {ob : Nat} {ns : List Nd} {W Lo : List Nat} (hr : RS T n p false ob ns W Lo J) (hn : n ≤ 250) (hp : p ≤ n) (hd : 2 ≤ d) : Mt mi_Re_readParts d 0 0 [.ref 731, .int (nI 2)] (J, R, L, sh, N) (fun x h2 => ∃ K, h2 = (K, R, L, sh, N) ∧ FrV J K ∧ AnP T n ob ns W Lo ((pxA T n 333 333 0 p)) x K) := by
  refine Mt.of pn_Re (Nat.le_of_ble_eq_true rfl) ?_
  show Run mi_Re_readParts d 0 0 0 [(0, .ref 731), (1, .int (nI 2))] [] (J, R, L, sh, N) _
  refine r_aload_n (x := some 731) (pc2 := 1) d_Re_readParts_0 rfl rfl ?_
  refine r_iconst (v := (-1 : Int32)) (pc2 := 2) d_Re_readParts_1 rfl (by decide) ?_
  refine q_putI (pc2 := 5) d_Re_readParts_2 rfl k_Re_22 (Or.inl rfl) (sh_731 hS) (Or.inl rfl) (fun I1 hI1 => ?_)
  have hr2 := hr.o7 (fun a j q1 q2 => by
    by_cases y : a = 731
    · subst y; exact rd_nk hI1 (fun z => q2 ⟨rfl, z⟩)
    · exact rd_ne hI1 y)
  refine r_iconst (v := nI 0) (pc2 := 6) d_Re_readParts_5 rfl (by decide) ?_
  refine r_istore_n (pc2 := 7) d_Re_readParts_6 rfl rfl (Nat.le_of_ble_eq_true rfl) ?_
  refine r_iload_n (pc2 := 8) d_Re_readParts_7 rfl rfl ?_
  refine r_iconst (v := nI 3) (pc2 := 9) d_Re_readParts_8 rfl (by decide) ?_
  refine q_icmp_ge (tgt := 76) (A := (0 : Int)) (B := (3 : Int)) (pc2 := 12) d_Re_readParts_9 rfl rfl (nI_toInt (by omega)) (nI_toInt (by omega)) (fun c3 => ?_) (fun c3 => ?_)
  · exfalso; omega
  refine r_iload_n (pc2 := 13) d_Re_readParts_12 rfl rfl ?_
  refine q_if_le (tgt := 37) (A := (0 : Int)) (pc2 := 16) d_Re_readParts_13 rfl rfl (nI_toInt (by omega)) (fun c4 => ?_) (fun c4 => ?_)
  rotate_left
  · exfalso; omega
  refine r_aload_n (x := some 731) (pc2 := 38) d_Re_readParts_37 rfl rfl ?_
  refine r_iconst (v := nI 3) (pc2 := 39) d_Re_readParts_38 rfl (by decide) ?_
  refine r_iconst (v := nI 0) (pc2 := 40) d_Re_readParts_39 rfl (by decide) ?_
  refine r_iload_n (pc2 := 41) d_Re_readParts_40 rfl rfl ?_
  refine r_iload_n (pc2 := 42) d_Re_readParts_41 rfl rfl ?_
  refine q_icmp_ge (tgt := 51) (A := (0 : Int)) (B := (2 : Int)) (pc2 := 45) d_Re_readParts_42 rfl rfl (nI_toInt (by omega)) (nI_toInt (by omega)) (fun c5 => ?_) (fun c5 => ?_)
  · exfalso; omega
  refine r_sipush (v := nI 333) (pc2 := 48) d_Re_readParts_45 rfl (by decide) ?_
  refine r_goto (tgt := 52) d_Re_readParts_48 rfl ?_
  refine r_callv (M2 := mi_Re_readNumber) (pc2 := 55) d_Re_readParts_52 rfl k_Re_115 cm_Re_readNumber cv_Re_readNumber (sh_731 hS) (by decide) rfl rfl rfl (Nat.le_of_ble_eq_true rfl) (c_Re_readNumber hS hR hT0 hr2 hn (by omega) (m := 3) (lo := 0) (hi := 333) (by omega) (by omega) (by omega) (by omega)) (d2 := d - 1) (by omega) (Nat.le_of_eq (Nat.zero_add _)) (Nat.le_of_eq (Nat.zero_add _)) (fun r2 h2 hq2 => ?_)
  obtain ⟨K6, rfl, hfK6, hmK6⟩ := hq2
  cases hoK6 : nmb T n 3 p 0 333 with
  | none =>
    rw [hoK6] at hmK6
    obtain ⟨rfl, hrK6⟩ := hmK6
    refine r_istore_n (pc2 := 56) d_Re_readParts_55 rfl rfl (Nat.le_of_ble_eq_true rfl) ?_
    refine r_iload_n (pc2 := 57) d_Re_readParts_56 rfl rfl ?_
    refine r_iconst (v := (-1 : Int32)) (pc2 := 58) d_Re_readParts_57 rfl (by decide) ?_
    refine q_icmp_ne (tgt := 63) (A := (-1 : Int)) (B := (-1 : Int)) (pc2 := 61) d_Re_readParts_58 rfl rfl (by decide) (by decide) (fun c7 => ?_) (fun c7 => ?_)
    · exfalso; omega
    refine r_iconst (v := nI 0) (pc2 := 62) d_Re_readParts_61 rfl (by decide) ?_
    refine Run.ret (some (.int (nI 0))) d_Re_readParts_62 ⟨_, rfl, by decide⟩ ?_
    have e_ : prt3 T n 333 333 0 p = (none, p) := by unfold prt3; rw [hoK6]
    exact ⟨_, rfl, ((FrV.rf.p hI1 (by decide)).t hfK6.v), by unfold pxA; rw [e_]; exact ⟨rfl, by omega, hrK6⟩⟩
  | some rK6 =>
    obtain ⟨eK6, vK6⟩ := rK6
    rw [hoK6] at hmK6
    obtain ⟨rfl, hrK6⟩ := hmK6
    have hnbK6 := nmb_p (by omega) hoK6
    refine r_istore_n (pc2 := 56) d_Re_readParts_55 rfl rfl (Nat.le_of_ble_eq_true rfl) ?_
    refine r_iload_n (pc2 := 57) d_Re_readParts_56 rfl rfl ?_
    refine r_iconst (v := (-1 : Int32)) (pc2 := 58) d_Re_readParts_57 rfl (by decide) ?_
    refine q_icmp_ne (tgt := 63) (A := ((vK6 : Nat) : Int)) (B := (-1 : Int)) (pc2 := 61) d_Re_readParts_58 rfl rfl (nI_toInt (by omega)) (by decide) (fun c8 => ?_) (fun c8 => ?_)
    rotate_left
    · exfalso; omega
    refine r_aload_n (x := some 731) (pc2 := 64) d_Re_readParts_63 rfl rfl ?_
    refine q_getR (x := some 733) (pc2 := 67) d_Re_readParts_64 rfl k_Re_25 rfl (sh_731 hS) (rf_731_4 hR) ?_
    refine r_iload_n (pc2 := 68) d_Re_readParts_67 rfl rfl ?_
    refine r_iload_n (pc2 := 69) d_Re_readParts_68 rfl rfl ?_
    refine q_iastore (q := 0) (pc2 := 70) d_Re_readParts_69 rfl (sh_733 hS) (nI_toInt (by omega)) (by omega) (fun I9 hI9 => ?_)
    have hr10 := hrK6.o7 (fun a j q1 q2 => rd_ne hI9 q1)
    refine q_iinc (b := 1) (pc2 := 73) d_Re_readParts_70 rfl rfl (by decide) (Nat.le_of_ble_eq_true rfl) ?_
    refine r_goto (tgt := 7) d_Re_readParts_73 rfl ?_
    refine r_iload_n (pc2 := 8) d_Re_readParts_7 rfl rfl ?_
    refine r_iconst (v := nI 3) (pc2 := 9) d_Re_readParts_8 rfl (by decide) ?_
    refine q_icmp_ge (tgt := 76) (A := (1 : Int)) (B := (3 : Int)) (pc2 := 12) d_Re_readParts_9 rfl rfl (nI_toInt (by omega)) (nI_toInt (by omega)) (fun c11 => ?_) (fun c11 => ?_)
    · exfalso; omega
    refine r_iload_n (pc2 := 13) d_Re_readParts_12 rfl rfl ?_
    refine q_if_le (tgt := 37) (A := (1 : Int)) (pc2 := 16) d_Re_readParts_13 rfl rfl (nI_toInt (by omega)) (fun c12 => ?_) (fun c12 => ?_)
    · exfalso; omega
    refine r_aload_n (x := some 731) (pc2 := 17) d_Re_readParts_16 rfl rfl ?_
    refine q_callv (M2 := mi_Re_letterHere) (pc2 := 20) d_Re_readParts_17 rfl k_Re_107 cm_Re_letterHere cv_Re_letterHere (sh_731 hS) (by decide) rfl rfl rfl (Nat.le_of_ble_eq_true rfl) (c_Re_letterHere hS hR hT0 hr10 hn (by omega)) (d2 := d - 1) (by omega) (Nat.le_of_eq (Nat.zero_add _)) (Nat.le_of_eq (Nat.zero_add _)) ?_
    refine r_bipush (v := nI 44) (pc2 := 22) d_Re_readParts_20 rfl (by decide) ?_
    refine q_icmp_eq (tgt := 27) (A := byt T n eK6) (B := (44 : Int)) (pc2 := 25) d_Re_readParts_22 rfl rfl (ltr_i) (nI_toInt (by omega)) (fun c13 => ?_) (fun c13 => ?_)
    · have hlI9 : eK6 < n := byt_lt (T := T) (by omega)
      refine r_aload_n (x := some 731) (pc2 := 28) d_Re_readParts_27 rfl rfl ?_
      refine r_dup (pc2 := 29) d_Re_readParts_28 rfl rfl ?_
      refine q_getI (x := nI eK6) (pc2 := 32) d_Re_readParts_29 rfl k_Re_19 (by decide) (sh_731 hS) hr10.1.2.1 ?_
      refine r_iconst (v := nI 1) (pc2 := 33) d_Re_readParts_32 rfl (by decide) ?_
      refine q_iaddN (pc2 := 34) d_Re_readParts_33 rfl ?_
      refine q_putI (pc2 := 37) d_Re_readParts_34 rfl k_Re_19 (Or.inl rfl) (sh_731 hS) (Or.inl rfl) (fun I14 hI14 => ?_)
      have hr15 := hr10.pl (q := eK6 + 1) hI14
      refine r_aload_n (x := some 731) (pc2 := 38) d_Re_readParts_37 rfl rfl ?_
      refine r_iconst (v := nI 3) (pc2 := 39) d_Re_readParts_38 rfl (by decide) ?_
      refine r_iconst (v := nI 0) (pc2 := 40) d_Re_readParts_39 rfl (by decide) ?_
      refine r_iload_n (pc2 := 41) d_Re_readParts_40 rfl rfl ?_
      refine r_iload_n (pc2 := 42) d_Re_readParts_41 rfl rfl ?_
      refine q_icmp_ge (tgt := 51) (A := (1 : Int)) (B := (2 : Int)) (pc2 := 45) d_Re_readParts_42 rfl rfl (nI_toInt (by omega)) (nI_toInt (by omega)) (fun c16 => ?_) (fun c16 => ?_)
      · exfalso; omega
      refine r_sipush (v := nI 333) (pc2 := 48) d_Re_readParts_45 rfl (by decide) ?_
      refine r_goto (tgt := 52) d_Re_readParts_48 rfl ?_
      refine r_callv (M2 := mi_Re_readNumber) (pc2 := 55) d_Re_readParts_52 rfl k_Re_115 cm_Re_readNumber cv_Re_readNumber (sh_731 hS) (by decide) rfl rfl rfl (Nat.le_of_ble_eq_true rfl) (c_Re_readNumber hS hR hT0 hr15 hn (by omega) (m := 3) (lo := 0) (hi := 333) (by omega) (by omega) (by omega) (by omega)) (d2 := d - 1) (by omega) (Nat.le_of_eq (Nat.zero_add _)) (Nat.le_of_eq (Nat.zero_add _)) (fun r2 h2 hq2 => ?_)
      obtain ⟨K17, rfl, hfK17, hmK17⟩ := hq2
      cases hoK17 : nmb T n 3 (eK6 + 1) 0 333 with
      | none =>
        rw [hoK17] at hmK17
        obtain ⟨rfl, hrK17⟩ := hmK17
        refine r_istore_n (pc2 := 56) d_Re_readParts_55 rfl rfl (Nat.le_of_ble_eq_true rfl) ?_
        refine r_iload_n (pc2 := 57) d_Re_readParts_56 rfl rfl ?_
        refine r_iconst (v := (-1 : Int32)) (pc2 := 58) d_Re_readParts_57 rfl (by decide) ?_
        refine q_icmp_ne (tgt := 63) (A := (-1 : Int)) (B := (-1 : Int)) (pc2 := 61) d_Re_readParts_58 rfl rfl (by decide) (by decide) (fun c18 => ?_) (fun c18 => ?_)
        · exfalso; omega
        refine r_iconst (v := nI 0) (pc2 := 62) d_Re_readParts_61 rfl (by decide) ?_
        refine Run.ret (some (.int (nI 0))) d_Re_readParts_62 ⟨_, rfl, by decide⟩ ?_
        have e_ : prt3 T n 333 333 0 p = (none, eK6 + 1) := by unfold prt3; rw [hoK6]; dsimp only; rw [if_neg (show ¬ (byt T n eK6 ≠ 44) by omega), hoK17]
        exact ⟨_, rfl, (((((FrV.rf.p hI1 (by decide)).t hfK6.v).p hI9 (by decide)).p hI14 (by decide)).t hfK17.v), by unfold pxA; rw [e_]; exact ⟨rfl, by omega, hrK17⟩⟩
      | some rK17 =>
        obtain ⟨eK17, vK17⟩ := rK17
        rw [hoK17] at hmK17
        obtain ⟨rfl, hrK17⟩ := hmK17
        have hnbK17 := nmb_p (by omega) hoK17
        refine r_istore_n (pc2 := 56) d_Re_readParts_55 rfl rfl (Nat.le_of_ble_eq_true rfl) ?_
        refine r_iload_n (pc2 := 57) d_Re_readParts_56 rfl rfl ?_
        refine r_iconst (v := (-1 : Int32)) (pc2 := 58) d_Re_readParts_57 rfl (by decide) ?_
        refine q_icmp_ne (tgt := 63) (A := ((vK17 : Nat) : Int)) (B := (-1 : Int)) (pc2 := 61) d_Re_readParts_58 rfl rfl (nI_toInt (by omega)) (by decide) (fun c19 => ?_) (fun c19 => ?_)
        rotate_left
        · exfalso; omega
        refine r_aload_n (x := some 731) (pc2 := 64) d_Re_readParts_63 rfl rfl ?_
        refine q_getR (x := some 733) (pc2 := 67) d_Re_readParts_64 rfl k_Re_25 rfl (sh_731 hS) (rf_731_4 hR) ?_
        refine r_iload_n (pc2 := 68) d_Re_readParts_67 rfl rfl ?_
        refine r_iload_n (pc2 := 69) d_Re_readParts_68 rfl rfl ?_
        refine q_iastore (q := 1) (pc2 := 70) d_Re_readParts_69 rfl (sh_733 hS) (nI_toInt (by omega)) (by omega) (fun I20 hI20 => ?_)
        have hr21 := hrK17.o7 (fun a j q1 q2 => rd_ne hI20 q1)
        refine q_iinc (b := 1) (pc2 := 73) d_Re_readParts_70 rfl rfl (by decide) (Nat.le_of_ble_eq_true rfl) ?_
        refine r_goto (tgt := 7) d_Re_readParts_73 rfl ?_
        refine r_iload_n (pc2 := 8) d_Re_readParts_7 rfl rfl ?_
        refine r_iconst (v := nI 3) (pc2 := 9) d_Re_readParts_8 rfl (by decide) ?_
        refine q_icmp_ge (tgt := 76) (A := (2 : Int)) (B := (3 : Int)) (pc2 := 12) d_Re_readParts_9 rfl rfl (nI_toInt (by omega)) (nI_toInt (by omega)) (fun c22 => ?_) (fun c22 => ?_)
        · exfalso; omega
        refine r_iload_n (pc2 := 13) d_Re_readParts_12 rfl rfl ?_
        refine q_if_le (tgt := 37) (A := (2 : Int)) (pc2 := 16) d_Re_readParts_13 rfl rfl (nI_toInt (by omega)) (fun c23 => ?_) (fun c23 => ?_)
        · exfalso; omega
        refine r_aload_n (x := some 731) (pc2 := 17) d_Re_readParts_16 rfl rfl ?_
        refine q_callv (M2 := mi_Re_letterHere) (pc2 := 20) d_Re_readParts_17 rfl k_Re_107 cm_Re_letterHere cv_Re_letterHere (sh_731 hS) (by decide) rfl rfl rfl (Nat.le_of_ble_eq_true rfl) (c_Re_letterHere hS hR hT0 hr21 hn (by omega)) (d2 := d - 1) (by omega) (Nat.le_of_eq (Nat.zero_add _)) (Nat.le_of_eq (Nat.zero_add _)) ?_
        refine r_bipush (v := nI 44) (pc2 := 22) d_Re_readParts_20 rfl (by decide) ?_
        refine q_icmp_eq (tgt := 27) (A := byt T n eK17) (B := (44 : Int)) (pc2 := 25) d_Re_readParts_22 rfl rfl (ltr_i) (nI_toInt (by omega)) (fun c24 => ?_) (fun c24 => ?_)
        · have hlI20 : eK17 < n := byt_lt (T := T) (by omega)
          refine r_aload_n (x := some 731) (pc2 := 28) d_Re_readParts_27 rfl rfl ?_
          refine r_dup (pc2 := 29) d_Re_readParts_28 rfl rfl ?_
          refine q_getI (x := nI eK17) (pc2 := 32) d_Re_readParts_29 rfl k_Re_19 (by decide) (sh_731 hS) hr21.1.2.1 ?_
          refine r_iconst (v := nI 1) (pc2 := 33) d_Re_readParts_32 rfl (by decide) ?_
          refine q_iaddN (pc2 := 34) d_Re_readParts_33 rfl ?_
          refine q_putI (pc2 := 37) d_Re_readParts_34 rfl k_Re_19 (Or.inl rfl) (sh_731 hS) (Or.inl rfl) (fun I25 hI25 => ?_)
          have hr26 := hr21.pl (q := eK17 + 1) hI25
          refine r_aload_n (x := some 731) (pc2 := 38) d_Re_readParts_37 rfl rfl ?_
          refine r_iconst (v := nI 3) (pc2 := 39) d_Re_readParts_38 rfl (by decide) ?_
          refine r_iconst (v := nI 0) (pc2 := 40) d_Re_readParts_39 rfl (by decide) ?_
          refine r_iload_n (pc2 := 41) d_Re_readParts_40 rfl rfl ?_
          refine r_iload_n (pc2 := 42) d_Re_readParts_41 rfl rfl ?_
          refine q_icmp_ge (tgt := 51) (A := (2 : Int)) (B := (2 : Int)) (pc2 := 45) d_Re_readParts_42 rfl rfl (nI_toInt (by omega)) (nI_toInt (by omega)) (fun c27 => ?_) (fun c27 => ?_)
          rotate_left
          · exfalso; omega
          refine r_iconst (v := nI 0) (pc2 := 52) d_Re_readParts_51 rfl (by decide) ?_
          refine r_callv (M2 := mi_Re_readNumber) (pc2 := 55) d_Re_readParts_52 rfl k_Re_115 cm_Re_readNumber cv_Re_readNumber (sh_731 hS) (by decide) rfl rfl rfl (Nat.le_of_ble_eq_true rfl) (c_Re_readNumber hS hR hT0 hr26 hn (by omega) (m := 3) (lo := 0) (hi := 0) (by omega) (by omega) (by omega) (by omega)) (d2 := d - 1) (by omega) (Nat.le_of_eq (Nat.zero_add _)) (Nat.le_of_eq (Nat.zero_add _)) (fun r2 h2 hq2 => ?_)
          obtain ⟨K28, rfl, hfK28, hmK28⟩ := hq2
          cases hoK28 : nmb T n 3 (eK17 + 1) 0 0 with
          | none =>
            rw [hoK28] at hmK28
            obtain ⟨rfl, hrK28⟩ := hmK28
            refine r_istore_n (pc2 := 56) d_Re_readParts_55 rfl rfl (Nat.le_of_ble_eq_true rfl) ?_
            refine r_iload_n (pc2 := 57) d_Re_readParts_56 rfl rfl ?_
            refine r_iconst (v := (-1 : Int32)) (pc2 := 58) d_Re_readParts_57 rfl (by decide) ?_
            refine q_icmp_ne (tgt := 63) (A := (-1 : Int)) (B := (-1 : Int)) (pc2 := 61) d_Re_readParts_58 rfl rfl (by decide) (by decide) (fun c29 => ?_) (fun c29 => ?_)
            · exfalso; omega
            refine r_iconst (v := nI 0) (pc2 := 62) d_Re_readParts_61 rfl (by decide) ?_
            refine Run.ret (some (.int (nI 0))) d_Re_readParts_62 ⟨_, rfl, by decide⟩ ?_
            have e_ : prt3 T n 333 333 0 p = (none, eK17 + 1) := by unfold prt3; rw [hoK6]; dsimp only; rw [if_neg (show ¬ (byt T n eK6 ≠ 44) by omega), hoK17]; dsimp only; rw [if_neg (show ¬ (byt T n eK17 ≠ 44) by omega), hoK28]
            exact ⟨_, rfl, ((((((((FrV.rf.p hI1 (by decide)).t hfK6.v).p hI9 (by decide)).p hI14 (by decide)).t hfK17.v).p hI20 (by decide)).p hI25 (by decide)).t hfK28.v), by unfold pxA; rw [e_]; exact ⟨rfl, by omega, hrK28⟩⟩
          | some rK28 =>
            obtain ⟨eK28, vK28⟩ := rK28
            rw [hoK28] at hmK28
            obtain ⟨rfl, hrK28⟩ := hmK28
            have hnbK28 := nmb_p (by omega) hoK28
            refine r_istore_n (pc2 := 56) d_Re_readParts_55 rfl rfl (Nat.le_of_ble_eq_true rfl) ?_
            refine r_iload_n (pc2 := 57) d_Re_readParts_56 rfl rfl ?_
            refine r_iconst (v := (-1 : Int32)) (pc2 := 58) d_Re_readParts_57 rfl (by decide) ?_
            refine q_icmp_ne (tgt := 63) (A := ((vK28 : Nat) : Int)) (B := (-1 : Int)) (pc2 := 61) d_Re_readParts_58 rfl rfl (nI_toInt (by omega)) (by decide) (fun c30 => ?_) (fun c30 => ?_)
            rotate_left
            · exfalso; omega
            refine r_aload_n (x := some 731) (pc2 := 64) d_Re_readParts_63 rfl rfl ?_
            refine q_getR (x := some 733) (pc2 := 67) d_Re_readParts_64 rfl k_Re_25 rfl (sh_731 hS) (rf_731_4 hR) ?_
            refine r_iload_n (pc2 := 68) d_Re_readParts_67 rfl rfl ?_
            refine r_iload_n (pc2 := 69) d_Re_readParts_68 rfl rfl ?_
            refine q_iastore (q := 2) (pc2 := 70) d_Re_readParts_69 rfl (sh_733 hS) (nI_toInt (by omega)) (by omega) (fun I31 hI31 => ?_)
            have hr32 := hrK28.o7 (fun a j q1 q2 => rd_ne hI31 q1)
            refine q_iinc (b := 1) (pc2 := 73) d_Re_readParts_70 rfl rfl (by decide) (Nat.le_of_ble_eq_true rfl) ?_
            refine r_goto (tgt := 7) d_Re_readParts_73 rfl ?_
            refine r_iload_n (pc2 := 8) d_Re_readParts_7 rfl rfl ?_
            refine r_iconst (v := nI 3) (pc2 := 9) d_Re_readParts_8 rfl (by decide) ?_
            refine q_icmp_ge (tgt := 76) (A := (3 : Int)) (B := (3 : Int)) (pc2 := 12) d_Re_readParts_9 rfl rfl (nI_toInt (by omega)) (nI_toInt (by omega)) (fun c33 => ?_) (fun c33 => ?_)
            rotate_left
            · exfalso; omega
            refine r_iconst (v := nI 1) (pc2 := 77) d_Re_readParts_76 rfl (by decide) ?_
            refine Run.ret (some (.int (nI 1))) d_Re_readParts_77 ⟨_, rfl, by decide⟩ ?_
            have e_ : prt3 T n 333 333 0 p = (some (vK6, vK17, vK28), eK28) := by unfold prt3; rw [hoK6]; dsimp only; rw [if_neg (show ¬ (byt T n eK6 ≠ 44) by omega), hoK17]; dsimp only; rw [if_neg (show ¬ (byt T n eK17 ≠ 44) by omega), hoK28]
            exact ⟨_, rfl, (((((((((FrV.rf.p hI1 (by decide)).t hfK6.v).p hI9 (by decide)).p hI14 (by decide)).t hfK17.v).p hI20 (by decide)).p hI25 (by decide)).t hfK28.v).p hI31 (by decide)), by unfold pxA; rw [e_]; exact ⟨rfl, by omega, hr32, (rd_ne hI31 (by decide)).trans ((hfK28 731 3 (by decide)).trans ((rd_nk hI25 (by decide)).trans ((rd_ne hI20 (by decide)).trans ((hfK17 731 3 (by decide)).trans ((rd_nk hI14 (by decide)).trans ((rd_ne hI9 (by decide)).trans ((hfK6 731 3 (by decide)).trans (rd_eq hI1)))))))), (rd_nk hI31 (by decide)).trans ((hfK28 733 0 (by decide)).trans ((rd_ne hI25 (by decide)).trans ((rd_nk hI20 (by decide)).trans ((hfK17 733 0 (by decide)).trans ((rd_ne hI14 (by decide)).trans (rd_eq hI9)))))), (rd_nk hI31 (by decide)).trans ((hfK28 733 1 (by decide)).trans ((rd_ne hI25 (by decide)).trans (rd_eq hI20))), rd_eq hI31⟩⟩
        · refine r_iconst (v := nI 0) (pc2 := 26) d_Re_readParts_25 rfl (by decide) ?_
          refine Run.ret (some (.int (nI 0))) d_Re_readParts_26 ⟨_, rfl, by decide⟩ ?_
          have e_ : prt3 T n 333 333 0 p = (none, eK17) := by unfold prt3; rw [hoK6]; dsimp only; rw [if_neg (show ¬ (byt T n eK6 ≠ 44) by omega), hoK17]; dsimp only; rw [if_pos (by omega)]
          exact ⟨_, rfl, ((((((FrV.rf.p hI1 (by decide)).t hfK6.v).p hI9 (by decide)).p hI14 (by decide)).t hfK17.v).p hI20 (by decide)), by unfold pxA; rw [e_]; exact ⟨rfl, by omega, hr21⟩⟩
    · refine r_iconst (v := nI 0) (pc2 := 26) d_Re_readParts_25 rfl (by decide) ?_
      refine Run.ret (some (.int (nI 0))) d_Re_readParts_26 ⟨_, rfl, by decide⟩ ?_
      have e_ : prt3 T n 333 333 0 p = (none, eK6) := by unfold prt3; rw [hoK6]; dsimp only; rw [if_pos (by omega)]
      exact ⟨_, rfl, (((FrV.rf.p hI1 (by decide)).t hfK6.v).p hI9 (by decide)), by unfold pxA; rw [e_]; exact ⟨rfl, by omega, hr10⟩⟩
theorem c_Re_readParts_3 {d : Nat} {J : Nat → Nat → Int32} {R : Nat → Nat → Option Nat} {L : Nat → Nat → Int64} {sh : Nat → Nat × Nat} {N : Nat} (hS : ShOK sh) (hR : RfOK R) (hT0 : R 731 0 = some 730) {T : Nat → Int32} {n p : Nat} {ob : Nat} {ns : List Nd} {W Lo : List Nat} (hr : RS T n p false ob ns W Lo J) (hn : n ≤ 250) (hp : p ≤ n) (hd : 2 ≤ d) : Mt mi_Re_readParts d 0 0 [.ref 731, .int (nI 3)] (J, R, L, sh, N) (fun x h2 => ∃ K, h2 = (K, R, L, sh, N) ∧ FrV J K ∧ AnP T n ob ns W Lo ((pxA T n 333 333 333 p)) x K) := by
  refine Mt.of pn_Re (Nat.le_of_ble_eq_true rfl) ?_
  show Run mi_Re_readParts d 0 0 0 [(0, .ref 731), (1, .int (nI 3))] [] (J, R, L, sh, N) _
  refine r_aload_n (x := some 731) (pc2 := 1) d_Re_readParts_0 rfl rfl ?_
  refine r_iconst (v := (-1 : Int32)) (pc2 := 2) d_Re_readParts_1 rfl (by decide) ?_
  refine q_putI (pc2 := 5) d_Re_readParts_2 rfl k_Re_22 (Or.inl rfl) (sh_731 hS) (Or.inl rfl) (fun I1 hI1 => ?_)
  have hr2 := hr.o7 (fun a j q1 q2 => by
    by_cases y : a = 731
    · subst y; exact rd_nk hI1 (fun z => q2 ⟨rfl, z⟩)
    · exact rd_ne hI1 y)
  refine r_iconst (v := nI 0) (pc2 := 6) d_Re_readParts_5 rfl (by decide) ?_
  refine r_istore_n (pc2 := 7) d_Re_readParts_6 rfl rfl (Nat.le_of_ble_eq_true rfl) ?_
  refine r_iload_n (pc2 := 8) d_Re_readParts_7 rfl rfl ?_
  refine r_iconst (v := nI 3) (pc2 := 9) d_Re_readParts_8 rfl (by decide) ?_
  refine q_icmp_ge (tgt := 76) (A := (0 : Int)) (B := (3 : Int)) (pc2 := 12) d_Re_readParts_9 rfl rfl (nI_toInt (by omega)) (nI_toInt (by omega)) (fun c3 => ?_) (fun c3 => ?_)
  · exfalso; omega
  refine r_iload_n (pc2 := 13) d_Re_readParts_12 rfl rfl ?_
  refine q_if_le (tgt := 37) (A := (0 : Int)) (pc2 := 16) d_Re_readParts_13 rfl rfl (nI_toInt (by omega)) (fun c4 => ?_) (fun c4 => ?_)
  rotate_left
  · exfalso; omega
  refine r_aload_n (x := some 731) (pc2 := 38) d_Re_readParts_37 rfl rfl ?_
  refine r_iconst (v := nI 3) (pc2 := 39) d_Re_readParts_38 rfl (by decide) ?_
  refine r_iconst (v := nI 0) (pc2 := 40) d_Re_readParts_39 rfl (by decide) ?_
  refine r_iload_n (pc2 := 41) d_Re_readParts_40 rfl rfl ?_
  refine r_iload_n (pc2 := 42) d_Re_readParts_41 rfl rfl ?_
  refine q_icmp_ge (tgt := 51) (A := (0 : Int)) (B := (3 : Int)) (pc2 := 45) d_Re_readParts_42 rfl rfl (nI_toInt (by omega)) (nI_toInt (by omega)) (fun c5 => ?_) (fun c5 => ?_)
  · exfalso; omega
  refine r_sipush (v := nI 333) (pc2 := 48) d_Re_readParts_45 rfl (by decide) ?_
  refine r_goto (tgt := 52) d_Re_readParts_48 rfl ?_
  refine r_callv (M2 := mi_Re_readNumber) (pc2 := 55) d_Re_readParts_52 rfl k_Re_115 cm_Re_readNumber cv_Re_readNumber (sh_731 hS) (by decide) rfl rfl rfl (Nat.le_of_ble_eq_true rfl) (c_Re_readNumber hS hR hT0 hr2 hn (by omega) (m := 3) (lo := 0) (hi := 333) (by omega) (by omega) (by omega) (by omega)) (d2 := d - 1) (by omega) (Nat.le_of_eq (Nat.zero_add _)) (Nat.le_of_eq (Nat.zero_add _)) (fun r2 h2 hq2 => ?_)
  obtain ⟨K6, rfl, hfK6, hmK6⟩ := hq2
  cases hoK6 : nmb T n 3 p 0 333 with
  | none =>
    rw [hoK6] at hmK6
    obtain ⟨rfl, hrK6⟩ := hmK6
    refine r_istore_n (pc2 := 56) d_Re_readParts_55 rfl rfl (Nat.le_of_ble_eq_true rfl) ?_
    refine r_iload_n (pc2 := 57) d_Re_readParts_56 rfl rfl ?_
    refine r_iconst (v := (-1 : Int32)) (pc2 := 58) d_Re_readParts_57 rfl (by decide) ?_
    refine q_icmp_ne (tgt := 63) (A := (-1 : Int)) (B := (-1 : Int)) (pc2 := 61) d_Re_readParts_58 rfl rfl (by decide) (by decide) (fun c7 => ?_) (fun c7 => ?_)
    · exfalso; omega
    refine r_iconst (v := nI 0) (pc2 := 62) d_Re_readParts_61 rfl (by decide) ?_
    refine Run.ret (some (.int (nI 0))) d_Re_readParts_62 ⟨_, rfl, by decide⟩ ?_
    have e_ : prt3 T n 333 333 333 p = (none, p) := by unfold prt3; rw [hoK6]
    exact ⟨_, rfl, ((FrV.rf.p hI1 (by decide)).t hfK6.v), by unfold pxA; rw [e_]; exact ⟨rfl, by omega, hrK6⟩⟩
  | some rK6 =>
    obtain ⟨eK6, vK6⟩ := rK6
    rw [hoK6] at hmK6
    obtain ⟨rfl, hrK6⟩ := hmK6
    have hnbK6 := nmb_p (by omega) hoK6
    refine r_istore_n (pc2 := 56) d_Re_readParts_55 rfl rfl (Nat.le_of_ble_eq_true rfl) ?_
    refine r_iload_n (pc2 := 57) d_Re_readParts_56 rfl rfl ?_
    refine r_iconst (v := (-1 : Int32)) (pc2 := 58) d_Re_readParts_57 rfl (by decide) ?_
    refine q_icmp_ne (tgt := 63) (A := ((vK6 : Nat) : Int)) (B := (-1 : Int)) (pc2 := 61) d_Re_readParts_58 rfl rfl (nI_toInt (by omega)) (by decide) (fun c8 => ?_) (fun c8 => ?_)
    rotate_left
    · exfalso; omega
    refine r_aload_n (x := some 731) (pc2 := 64) d_Re_readParts_63 rfl rfl ?_
    refine q_getR (x := some 733) (pc2 := 67) d_Re_readParts_64 rfl k_Re_25 rfl (sh_731 hS) (rf_731_4 hR) ?_
    refine r_iload_n (pc2 := 68) d_Re_readParts_67 rfl rfl ?_
    refine r_iload_n (pc2 := 69) d_Re_readParts_68 rfl rfl ?_
    refine q_iastore (q := 0) (pc2 := 70) d_Re_readParts_69 rfl (sh_733 hS) (nI_toInt (by omega)) (by omega) (fun I9 hI9 => ?_)
    have hr10 := hrK6.o7 (fun a j q1 q2 => rd_ne hI9 q1)
    refine q_iinc (b := 1) (pc2 := 73) d_Re_readParts_70 rfl rfl (by decide) (Nat.le_of_ble_eq_true rfl) ?_
    refine r_goto (tgt := 7) d_Re_readParts_73 rfl ?_
    refine r_iload_n (pc2 := 8) d_Re_readParts_7 rfl rfl ?_
    refine r_iconst (v := nI 3) (pc2 := 9) d_Re_readParts_8 rfl (by decide) ?_
    refine q_icmp_ge (tgt := 76) (A := (1 : Int)) (B := (3 : Int)) (pc2 := 12) d_Re_readParts_9 rfl rfl (nI_toInt (by omega)) (nI_toInt (by omega)) (fun c11 => ?_) (fun c11 => ?_)
    · exfalso; omega
    refine r_iload_n (pc2 := 13) d_Re_readParts_12 rfl rfl ?_
    refine q_if_le (tgt := 37) (A := (1 : Int)) (pc2 := 16) d_Re_readParts_13 rfl rfl (nI_toInt (by omega)) (fun c12 => ?_) (fun c12 => ?_)
    · exfalso; omega
    refine r_aload_n (x := some 731) (pc2 := 17) d_Re_readParts_16 rfl rfl ?_
    refine q_callv (M2 := mi_Re_letterHere) (pc2 := 20) d_Re_readParts_17 rfl k_Re_107 cm_Re_letterHere cv_Re_letterHere (sh_731 hS) (by decide) rfl rfl rfl (Nat.le_of_ble_eq_true rfl) (c_Re_letterHere hS hR hT0 hr10 hn (by omega)) (d2 := d - 1) (by omega) (Nat.le_of_eq (Nat.zero_add _)) (Nat.le_of_eq (Nat.zero_add _)) ?_
    refine r_bipush (v := nI 44) (pc2 := 22) d_Re_readParts_20 rfl (by decide) ?_
    refine q_icmp_eq (tgt := 27) (A := byt T n eK6) (B := (44 : Int)) (pc2 := 25) d_Re_readParts_22 rfl rfl (ltr_i) (nI_toInt (by omega)) (fun c13 => ?_) (fun c13 => ?_)
    · have hlI9 : eK6 < n := byt_lt (T := T) (by omega)
      refine r_aload_n (x := some 731) (pc2 := 28) d_Re_readParts_27 rfl rfl ?_
      refine r_dup (pc2 := 29) d_Re_readParts_28 rfl rfl ?_
      refine q_getI (x := nI eK6) (pc2 := 32) d_Re_readParts_29 rfl k_Re_19 (by decide) (sh_731 hS) hr10.1.2.1 ?_
      refine r_iconst (v := nI 1) (pc2 := 33) d_Re_readParts_32 rfl (by decide) ?_
      refine q_iaddN (pc2 := 34) d_Re_readParts_33 rfl ?_
      refine q_putI (pc2 := 37) d_Re_readParts_34 rfl k_Re_19 (Or.inl rfl) (sh_731 hS) (Or.inl rfl) (fun I14 hI14 => ?_)
      have hr15 := hr10.pl (q := eK6 + 1) hI14
      refine r_aload_n (x := some 731) (pc2 := 38) d_Re_readParts_37 rfl rfl ?_
      refine r_iconst (v := nI 3) (pc2 := 39) d_Re_readParts_38 rfl (by decide) ?_
      refine r_iconst (v := nI 0) (pc2 := 40) d_Re_readParts_39 rfl (by decide) ?_
      refine r_iload_n (pc2 := 41) d_Re_readParts_40 rfl rfl ?_
      refine r_iload_n (pc2 := 42) d_Re_readParts_41 rfl rfl ?_
      refine q_icmp_ge (tgt := 51) (A := (1 : Int)) (B := (3 : Int)) (pc2 := 45) d_Re_readParts_42 rfl rfl (nI_toInt (by omega)) (nI_toInt (by omega)) (fun c16 => ?_) (fun c16 => ?_)
      · exfalso; omega
      refine r_sipush (v := nI 333) (pc2 := 48) d_Re_readParts_45 rfl (by decide) ?_
      refine r_goto (tgt := 52) d_Re_readParts_48 rfl ?_
      refine r_callv (M2 := mi_Re_readNumber) (pc2 := 55) d_Re_readParts_52 rfl k_Re_115 cm_Re_readNumber cv_Re_readNumber (sh_731 hS) (by decide) rfl rfl rfl (Nat.le_of_ble_eq_true rfl) (c_Re_readNumber hS hR hT0 hr15 hn (by omega) (m := 3) (lo := 0) (hi := 333) (by omega) (by omega) (by omega) (by omega)) (d2 := d - 1) (by omega) (Nat.le_of_eq (Nat.zero_add _)) (Nat.le_of_eq (Nat.zero_add _)) (fun r2 h2 hq2 => ?_)
      obtain ⟨K17, rfl, hfK17, hmK17⟩ := hq2
      cases hoK17 : nmb T n 3 (eK6 + 1) 0 333 with
      | none =>
        rw [hoK17] at hmK17
        obtain ⟨rfl, hrK17⟩ := hmK17
        refine r_istore_n (pc2 := 56) d_Re_readParts_55 rfl rfl (Nat.le_of_ble_eq_true rfl) ?_
        refine r_iload_n (pc2 := 57) d_Re_readParts_56 rfl rfl ?_
        refine r_iconst (v := (-1 : Int32)) (pc2 := 58) d_Re_readParts_57 rfl (by decide) ?_
        refine q_icmp_ne (tgt := 63) (A := (-1 : Int)) (B := (-1 : Int)) (pc2 := 61) d_Re_readParts_58 rfl rfl (by decide) (by decide) (fun c18 => ?_) (fun c18 => ?_)
        · exfalso; omega
        refine r_iconst (v := nI 0) (pc2 := 62) d_Re_readParts_61 rfl (by decide) ?_
        refine Run.ret (some (.int (nI 0))) d_Re_readParts_62 ⟨_, rfl, by decide⟩ ?_
        have e_ : prt3 T n 333 333 333 p = (none, eK6 + 1) := by unfold prt3; rw [hoK6]; dsimp only; rw [if_neg (show ¬ (byt T n eK6 ≠ 44) by omega), hoK17]
        exact ⟨_, rfl, (((((FrV.rf.p hI1 (by decide)).t hfK6.v).p hI9 (by decide)).p hI14 (by decide)).t hfK17.v), by unfold pxA; rw [e_]; exact ⟨rfl, by omega, hrK17⟩⟩
      | some rK17 =>
        obtain ⟨eK17, vK17⟩ := rK17
        rw [hoK17] at hmK17
        obtain ⟨rfl, hrK17⟩ := hmK17
        have hnbK17 := nmb_p (by omega) hoK17
        refine r_istore_n (pc2 := 56) d_Re_readParts_55 rfl rfl (Nat.le_of_ble_eq_true rfl) ?_
        refine r_iload_n (pc2 := 57) d_Re_readParts_56 rfl rfl ?_
        refine r_iconst (v := (-1 : Int32)) (pc2 := 58) d_Re_readParts_57 rfl (by decide) ?_
        refine q_icmp_ne (tgt := 63) (A := ((vK17 : Nat) : Int)) (B := (-1 : Int)) (pc2 := 61) d_Re_readParts_58 rfl rfl (nI_toInt (by omega)) (by decide) (fun c19 => ?_) (fun c19 => ?_)
        rotate_left
        · exfalso; omega
        refine r_aload_n (x := some 731) (pc2 := 64) d_Re_readParts_63 rfl rfl ?_
        refine q_getR (x := some 733) (pc2 := 67) d_Re_readParts_64 rfl k_Re_25 rfl (sh_731 hS) (rf_731_4 hR) ?_
        refine r_iload_n (pc2 := 68) d_Re_readParts_67 rfl rfl ?_
        refine r_iload_n (pc2 := 69) d_Re_readParts_68 rfl rfl ?_
        refine q_iastore (q := 1) (pc2 := 70) d_Re_readParts_69 rfl (sh_733 hS) (nI_toInt (by omega)) (by omega) (fun I20 hI20 => ?_)
        have hr21 := hrK17.o7 (fun a j q1 q2 => rd_ne hI20 q1)
        refine q_iinc (b := 1) (pc2 := 73) d_Re_readParts_70 rfl rfl (by decide) (Nat.le_of_ble_eq_true rfl) ?_
        refine r_goto (tgt := 7) d_Re_readParts_73 rfl ?_
        refine r_iload_n (pc2 := 8) d_Re_readParts_7 rfl rfl ?_
        refine r_iconst (v := nI 3) (pc2 := 9) d_Re_readParts_8 rfl (by decide) ?_
        refine q_icmp_ge (tgt := 76) (A := (2 : Int)) (B := (3 : Int)) (pc2 := 12) d_Re_readParts_9 rfl rfl (nI_toInt (by omega)) (nI_toInt (by omega)) (fun c22 => ?_) (fun c22 => ?_)
        · exfalso; omega
        refine r_iload_n (pc2 := 13) d_Re_readParts_12 rfl rfl ?_
        refine q_if_le (tgt := 37) (A := (2 : Int)) (pc2 := 16) d_Re_readParts_13 rfl rfl (nI_toInt (by omega)) (fun c23 => ?_) (fun c23 => ?_)
        · exfalso; omega
        refine r_aload_n (x := some 731) (pc2 := 17) d_Re_readParts_16 rfl rfl ?_
        refine q_callv (M2 := mi_Re_letterHere) (pc2 := 20) d_Re_readParts_17 rfl k_Re_107 cm_Re_letterHere cv_Re_letterHere (sh_731 hS) (by decide) rfl rfl rfl (Nat.le_of_ble_eq_true rfl) (c_Re_letterHere hS hR hT0 hr21 hn (by omega)) (d2 := d - 1) (by omega) (Nat.le_of_eq (Nat.zero_add _)) (Nat.le_of_eq (Nat.zero_add _)) ?_
        refine r_bipush (v := nI 44) (pc2 := 22) d_Re_readParts_20 rfl (by decide) ?_
        refine q_icmp_eq (tgt := 27) (A := byt T n eK17) (B := (44 : Int)) (pc2 := 25) d_Re_readParts_22 rfl rfl (ltr_i) (nI_toInt (by omega)) (fun c24 => ?_) (fun c24 => ?_)
        · have hlI20 : eK17 < n := byt_lt (T := T) (by omega)
          refine r_aload_n (x := some 731) (pc2 := 28) d_Re_readParts_27 rfl rfl ?_
          refine r_dup (pc2 := 29) d_Re_readParts_28 rfl rfl ?_
          refine q_getI (x := nI eK17) (pc2 := 32) d_Re_readParts_29 rfl k_Re_19 (by decide) (sh_731 hS) hr21.1.2.1 ?_
          refine r_iconst (v := nI 1) (pc2 := 33) d_Re_readParts_32 rfl (by decide) ?_
          refine q_iaddN (pc2 := 34) d_Re_readParts_33 rfl ?_
          refine q_putI (pc2 := 37) d_Re_readParts_34 rfl k_Re_19 (Or.inl rfl) (sh_731 hS) (Or.inl rfl) (fun I25 hI25 => ?_)
          have hr26 := hr21.pl (q := eK17 + 1) hI25
          refine r_aload_n (x := some 731) (pc2 := 38) d_Re_readParts_37 rfl rfl ?_
          refine r_iconst (v := nI 3) (pc2 := 39) d_Re_readParts_38 rfl (by decide) ?_
          refine r_iconst (v := nI 0) (pc2 := 40) d_Re_readParts_39 rfl (by decide) ?_
          refine r_iload_n (pc2 := 41) d_Re_readParts_40 rfl rfl ?_
          refine r_iload_n (pc2 := 42) d_Re_readParts_41 rfl rfl ?_
          refine q_icmp_ge (tgt := 51) (A := (2 : Int)) (B := (3 : Int)) (pc2 := 45) d_Re_readParts_42 rfl rfl (nI_toInt (by omega)) (nI_toInt (by omega)) (fun c27 => ?_) (fun c27 => ?_)
          · exfalso; omega
          refine r_sipush (v := nI 333) (pc2 := 48) d_Re_readParts_45 rfl (by decide) ?_
          refine r_goto (tgt := 52) d_Re_readParts_48 rfl ?_
          refine r_callv (M2 := mi_Re_readNumber) (pc2 := 55) d_Re_readParts_52 rfl k_Re_115 cm_Re_readNumber cv_Re_readNumber (sh_731 hS) (by decide) rfl rfl rfl (Nat.le_of_ble_eq_true rfl) (c_Re_readNumber hS hR hT0 hr26 hn (by omega) (m := 3) (lo := 0) (hi := 333) (by omega) (by omega) (by omega) (by omega)) (d2 := d - 1) (by omega) (Nat.le_of_eq (Nat.zero_add _)) (Nat.le_of_eq (Nat.zero_add _)) (fun r2 h2 hq2 => ?_)
          obtain ⟨K28, rfl, hfK28, hmK28⟩ := hq2
          cases hoK28 : nmb T n 3 (eK17 + 1) 0 333 with
          | none =>
            rw [hoK28] at hmK28
            obtain ⟨rfl, hrK28⟩ := hmK28
            refine r_istore_n (pc2 := 56) d_Re_readParts_55 rfl rfl (Nat.le_of_ble_eq_true rfl) ?_
            refine r_iload_n (pc2 := 57) d_Re_readParts_56 rfl rfl ?_
            refine r_iconst (v := (-1 : Int32)) (pc2 := 58) d_Re_readParts_57 rfl (by decide) ?_
            refine q_icmp_ne (tgt := 63) (A := (-1 : Int)) (B := (-1 : Int)) (pc2 := 61) d_Re_readParts_58 rfl rfl (by decide) (by decide) (fun c29 => ?_) (fun c29 => ?_)
            · exfalso; omega
            refine r_iconst (v := nI 0) (pc2 := 62) d_Re_readParts_61 rfl (by decide) ?_
            refine Run.ret (some (.int (nI 0))) d_Re_readParts_62 ⟨_, rfl, by decide⟩ ?_
            have e_ : prt3 T n 333 333 333 p = (none, eK17 + 1) := by unfold prt3; rw [hoK6]; dsimp only; rw [if_neg (show ¬ (byt T n eK6 ≠ 44) by omega), hoK17]; dsimp only; rw [if_neg (show ¬ (byt T n eK17 ≠ 44) by omega), hoK28]
            exact ⟨_, rfl, ((((((((FrV.rf.p hI1 (by decide)).t hfK6.v).p hI9 (by decide)).p hI14 (by decide)).t hfK17.v).p hI20 (by decide)).p hI25 (by decide)).t hfK28.v), by unfold pxA; rw [e_]; exact ⟨rfl, by omega, hrK28⟩⟩
          | some rK28 =>
            obtain ⟨eK28, vK28⟩ := rK28
            rw [hoK28] at hmK28
            obtain ⟨rfl, hrK28⟩ := hmK28
            have hnbK28 := nmb_p (by omega) hoK28
            refine r_istore_n (pc2 := 56) d_Re_readParts_55 rfl rfl (Nat.le_of_ble_eq_true rfl) ?_
            refine r_iload_n (pc2 := 57) d_Re_readParts_56 rfl rfl ?_
            refine r_iconst (v := (-1 : Int32)) (pc2 := 58) d_Re_readParts_57 rfl (by decide) ?_
            refine q_icmp_ne (tgt := 63) (A := ((vK28 : Nat) : Int)) (B := (-1 : Int)) (pc2 := 61) d_Re_readParts_58 rfl rfl (nI_toInt (by omega)) (by decide) (fun c30 => ?_) (fun c30 => ?_)
            rotate_left
            · exfalso; omega
            refine r_aload_n (x := some 731) (pc2 := 64) d_Re_readParts_63 rfl rfl ?_
            refine q_getR (x := some 733) (pc2 := 67) d_Re_readParts_64 rfl k_Re_25 rfl (sh_731 hS) (rf_731_4 hR) ?_
            refine r_iload_n (pc2 := 68) d_Re_readParts_67 rfl rfl ?_
            refine r_iload_n (pc2 := 69) d_Re_readParts_68 rfl rfl ?_
            refine q_iastore (q := 2) (pc2 := 70) d_Re_readParts_69 rfl (sh_733 hS) (nI_toInt (by omega)) (by omega) (fun I31 hI31 => ?_)
            have hr32 := hrK28.o7 (fun a j q1 q2 => rd_ne hI31 q1)
            refine q_iinc (b := 1) (pc2 := 73) d_Re_readParts_70 rfl rfl (by decide) (Nat.le_of_ble_eq_true rfl) ?_
            refine r_goto (tgt := 7) d_Re_readParts_73 rfl ?_
            refine r_iload_n (pc2 := 8) d_Re_readParts_7 rfl rfl ?_
            refine r_iconst (v := nI 3) (pc2 := 9) d_Re_readParts_8 rfl (by decide) ?_
            refine q_icmp_ge (tgt := 76) (A := (3 : Int)) (B := (3 : Int)) (pc2 := 12) d_Re_readParts_9 rfl rfl (nI_toInt (by omega)) (nI_toInt (by omega)) (fun c33 => ?_) (fun c33 => ?_)
            rotate_left
            · exfalso; omega
            refine r_iconst (v := nI 1) (pc2 := 77) d_Re_readParts_76 rfl (by decide) ?_
            refine Run.ret (some (.int (nI 1))) d_Re_readParts_77 ⟨_, rfl, by decide⟩ ?_
            have e_ : prt3 T n 333 333 333 p = (some (vK6, vK17, vK28), eK28) := by unfold prt3; rw [hoK6]; dsimp only; rw [if_neg (show ¬ (byt T n eK6 ≠ 44) by omega), hoK17]; dsimp only; rw [if_neg (show ¬ (byt T n eK17 ≠ 44) by omega), hoK28]
            exact ⟨_, rfl, (((((((((FrV.rf.p hI1 (by decide)).t hfK6.v).p hI9 (by decide)).p hI14 (by decide)).t hfK17.v).p hI20 (by decide)).p hI25 (by decide)).t hfK28.v).p hI31 (by decide)), by unfold pxA; rw [e_]; exact ⟨rfl, by omega, hr32, (rd_ne hI31 (by decide)).trans ((hfK28 731 3 (by decide)).trans ((rd_nk hI25 (by decide)).trans ((rd_ne hI20 (by decide)).trans ((hfK17 731 3 (by decide)).trans ((rd_nk hI14 (by decide)).trans ((rd_ne hI9 (by decide)).trans ((hfK6 731 3 (by decide)).trans (rd_eq hI1)))))))), (rd_nk hI31 (by decide)).trans ((hfK28 733 0 (by decide)).trans ((rd_ne hI25 (by decide)).trans ((rd_nk hI20 (by decide)).trans ((hfK17 733 0 (by decide)).trans ((rd_ne hI14 (by decide)).trans (rd_eq hI9)))))), (rd_nk hI31 (by decide)).trans ((hfK28 733 1 (by decide)).trans ((rd_ne hI25 (by decide)).trans (rd_eq hI20))), rd_eq hI31⟩⟩
        · refine r_iconst (v := nI 0) (pc2 := 26) d_Re_readParts_25 rfl (by decide) ?_
          refine Run.ret (some (.int (nI 0))) d_Re_readParts_26 ⟨_, rfl, by decide⟩ ?_
          have e_ : prt3 T n 333 333 333 p = (none, eK17) := by unfold prt3; rw [hoK6]; dsimp only; rw [if_neg (show ¬ (byt T n eK6 ≠ 44) by omega), hoK17]; dsimp only; rw [if_pos (by omega)]
          exact ⟨_, rfl, ((((((FrV.rf.p hI1 (by decide)).t hfK6.v).p hI9 (by decide)).p hI14 (by decide)).t hfK17.v).p hI20 (by decide)), by unfold pxA; rw [e_]; exact ⟨rfl, by omega, hr21⟩⟩
    · refine r_iconst (v := nI 0) (pc2 := 26) d_Re_readParts_25 rfl (by decide) ?_
      refine Run.ret (some (.int (nI 0))) d_Re_readParts_26 ⟨_, rfl, by decide⟩ ?_
      have e_ : prt3 T n 333 333 333 p = (none, eK6) := by unfold prt3; rw [hoK6]; dsimp only; rw [if_pos (by omega)]
      exact ⟨_, rfl, (((FrV.rf.p hI1 (by decide)).t hfK6.v).p hI9 (by decide)), by unfold pxA; rw [e_]; exact ⟨rfl, by omega, hr10⟩⟩
theorem c_Re_readParts {d : Nat} {J : Nat → Nat → Int32} {R : Nat → Nat → Option Nat} {L : Nat → Nat → Int64} {sh : Nat → Nat × Nat} {N : Nat} (hS : ShOK sh) (hR : RfOK R) (hT0 : R 731 0 = some 730) {T : Nat → Int32} {n p : Nat} {ob : Nat} {ns : List Nd} {W Lo : List Nat} (hr : RS T n p false ob ns W Lo J) (hn : n ≤ 250) (hp : p ≤ n) {top : Nat} (ht : 1 ≤ top ∧ top ≤ 3) (hd : 2 ≤ d) : Mt mi_Re_readParts d 0 0 [.ref 731, .int (nI top)] (J, R, L, sh, N) (fun x h2 => ∃ K, h2 = (K, R, L, sh, N) ∧ FrV J K ∧ AnP T n ob ns W Lo ((pxA T n (hiT top 0) (hiT top 1) (hiT top 2) p)) x K) := by
  rcases (show top = 1 ∨ top = 2 ∨ top = 3 by omega) with h | h | h <;> subst h
  · exact c_Re_readParts_1 hS hR hT0 hr hn hp hd
  · exact c_Re_readParts_2 hS hR hT0 hr hn hp hd
  · exact c_Re_readParts_3 hS hR hT0 hr hn hp hd
