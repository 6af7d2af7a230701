/-! THE READER: negate, joinWaiting -/
/-! what holds of the machine -/
/-- how many wait for a second part; how many will each make a node -/
def bns : List Nat → Nat
  | [] => 0
  | s :: W => (if s = 38 ∨ s = 124 then 1 else 0) + bns W
def nob : List Nat → Nat
  | [] => 0
  | s :: W => (if s = 40 then 0 else 1) + nob W
def okW : List Nat → Prop
  | [] => True
  | s :: W => (s = 33 ∨ s = 40 ∨ s = 38 ∨ s = 124) ∧ ((s = 38 ∨ s = 124) → W.headD 0 ≠ 33) ∧ okW W
theorem bns_c {s : Nat} {W : List Nat} : bns (s :: W) = (if s = 38 ∨ s = 124 then 1 else 0) + bns W := rfl
theorem nob_c {s : Nat} {W : List Nat} : nob (s :: W) = (if s = 40 then 0 else 1) + nob W := rfl
theorem opn_l {W : List Nat} : opn W ≤ W.length := by
  induction W with
  | nil => exact Nat.le_refl _
  | cons s W ih => rw [opn_c, List.length_cons]; by_cases q : s = 40 <;> (first | rw [if_pos q] | rw [if_neg q]) <;> omega
/-- what the machine keeps of a step -/
def JK (ns : List Nd) (W Lo : List Nat) (r : List Nd × List Nat × List Nat) : Prop := okW r.2.1 ∧ r.2.1.headD 0 ≠ 33 ∧ r.2.2.length = bns r.2.1 + 1 ∧ r.1.length + nob r.2.1 = ns.length + nob W ∧ r.2.1.length ≤ W.length ∧ opn r.2.1 = opn W
theorem cons_of {W : List Nat} (h : 0 < W.length) : W = W.headD 0 :: W.tail := by
  cases W with
  | nil => exact absurd h (by simp)
  | cons s W => rfl
theorem headD_0 {W : List Nat} (h : ¬ 0 < W.length) : W = [] := List.eq_nil_of_length_eq_zero (by omega)
theorem ng_st {ns : List Nd} {W Lo : List Nat} (hw : 0 < W.length) (h : W.headD 0 = 33) (hl : 0 < Lo.length) : ng ns W Lo = ng (ns ++ [(3, Lo.headD 0, 0, 0)]) W.tail (ns.length :: Lo.tail) := by
  cases W with
  | nil => exact absurd hw (by simp)
  | cons s W =>
    have : s = 33 := h
    subst this
    cases Lo with
    | nil => exact absurd hl (by simp)
    | cons t Lo => rfl
theorem ng_0 {ns : List Nd} {W Lo : List Nat} (h : W.headD 0 ≠ 33) : ng ns W Lo = (ns, W, Lo) := by
  cases W with
  | nil => rfl
  | cons s W =>
    have h2 : ¬ s = 33 := h
    unfold ng
    rw [if_neg h2]
theorem jn_st {ns : List Nd} {W Lo : List Nat} {e : Bool} (hw : 0 < W.length) (h : W.headD 0 = 38 ∨ (e = true ∧ W.headD 0 = 124)) (hl : 2 ≤ Lo.length) : jn ns W Lo e = jn (ns ++ [(if W.headD 0 = 38 then 7 else 8, Lo.tail.headD 0, Lo.headD 0, 0)]) W.tail (ns.length :: Lo.tail.tail) e := by
  cases W with
  | nil => exact absurd hw (by simp)
  | cons s W =>
    cases Lo with
    | nil => exact absurd hl (by simp)
    | cons b Lo =>
      cases Lo with
      | nil => exact absurd hl (by simp)
      | cons a Lo =>
        have h2 : s = 38 ∨ (e = true ∧ s = 124) := h
        show jn ns (s :: W) (b :: a :: Lo) e = jn (ns ++ [(if s = 38 then 7 else 8, a, b, 0)]) W (ns.length :: Lo) e
        rw [show jn ns (s :: W) (b :: a :: Lo) e = (if s = 38 ∨ (e = true ∧ s = 124) then jn (ns ++ [(if s = 38 then 7 else 8, a, b, 0)]) W (ns.length :: Lo) e else (ns, s :: W, b :: a :: Lo)) from rfl, if_pos h2]
theorem jn_ok {e : Bool} : ∀ {W : List Nat} {ns : List Nd} {Lo : List Nat}, okW W → W.headD 0 ≠ 33 → Lo.length = bns W + 1 → JK ns W Lo (jn ns W Lo e) ∧ (e = true → (jn ns W Lo e).2.1.headD 0 ≠ 38 ∧ (jn ns W Lo e).2.1.headD 0 ≠ 124)
  | [], ns, Lo, h1, h2, h3 => ⟨⟨h1, h2, h3, rfl, Nat.le_refl _, rfl⟩, fun _ => ⟨by show (0 : Nat) ≠ 38; decide, by show (0 : Nat) ≠ 124; decide⟩⟩
  | s :: W, ns, Lo, h1, h2, h3 => by
    by_cases q : s = 38 ∨ (e = true ∧ s = 124)
    · have q2 : s = 38 ∨ s = 124 := by rcases q with q | q
                                       · exact Or.inl q
                                       · exact Or.inr q.2
      rw [bns_c, if_pos q2] at h3
      obtain ⟨x, hx⟩ : ∃ x : Nd, jn ns (s :: W) Lo e = jn (ns ++ [x]) W (ns.length :: Lo.tail.tail) e := ⟨_, jn_st (W := s :: W) (by simp) q (by omega)⟩
      rw [hx]
      have hl : (ns ++ [x] : List Nd).length = ns.length + 1 := by rw [List.length_append, List.length_singleton]
      obtain ⟨⟨k1, k2, k3, k4, k5, k6⟩, k7⟩ := jn_ok (e := e) (W := W) (ns := ns ++ [x]) (Lo := ns.length :: Lo.tail.tail) h1.2.2 (h1.2.1 q2) (by rw [List.length_cons, List.length_tail, List.length_tail]; omega)
      refine ⟨⟨k1, k2, k3, ?_, ?_, ?_⟩, k7⟩
      · rw [hl] at k4
        rw [nob_c, if_neg (by omega)]
        omega
      · rw [List.length_cons]; exact Nat.le_succ_of_le k5
      · rw [opn_c, if_neg (by omega)]; exact k6.trans (Nat.zero_add _).symm
    · have q3 : jn ns (s :: W) Lo e = (ns, s :: W, Lo) := jn_0 (fun z => q (Or.inl z)) (fun he z => q (Or.inr ⟨he, z⟩))
      rw [q3]
      exact ⟨⟨h1, h2, h3, rfl, Nat.le_refl _, rfl⟩, fun he => ⟨fun z => q (Or.inl z), fun z => q (Or.inr ⟨he, z⟩)⟩⟩
theorem ng_ok : ∀ {W : List Nat} {ns : List Nd} {Lo : List Nat}, okW W → Lo.length = bns W + 1 → JK ns W Lo (ng ns W Lo)
  | [], ns, Lo, h1, h3 => ⟨h1, by show (0 : Nat) ≠ 33; decide, h3, rfl, Nat.le_refl _, rfl⟩
  | s :: W, ns, Lo, h1, h3 => by
    by_cases q : s = 33
    · have q2 : ¬ (s = 38 ∨ s = 124) := by omega
      rw [bns_c, if_neg q2] at h3
      rw [show ng ns (s :: W) Lo = ng (ns ++ [(3, Lo.headD 0, 0, 0)]) W (ns.length :: Lo.tail) from ng_st (W := s :: W) (by simp) q (by omega)]
      have hl : (ns ++ [(3, Lo.headD 0, 0, 0)] : List Nd).length = ns.length + 1 := by rw [List.length_append, List.length_singleton]
      obtain ⟨k1, k2, k3, k4, k5, k6⟩ := ng_ok (W := W) (ns := ns ++ [(3, Lo.headD 0, 0, 0)]) (Lo := ns.length :: Lo.tail) h1.2.2 (by rw [List.length_cons, List.length_tail]; omega)
      refine ⟨k1, k2, k3, ?_, ?_, ?_⟩
      · rw [hl] at k4
        rw [nob_c, if_neg (by omega)]
        omega
      · rw [List.length_cons]; exact Nat.le_succ_of_le k5
      · rw [opn_c, if_neg (by omega)]; exact k6.trans (Nat.zero_add _).symm
    · rw [ng_0 (W := s :: W) q]
      exact ⟨h1, q, h3, rfl, Nat.le_refl _, rfl⟩
theorem bns_le {W : List Nat} : bns W ≤ nob W := by
  induction W with
  | nil => exact Nat.le_refl _
  | cons s W ih => rw [bns_c, nob_c]; by_cases q : s = 38 ∨ s = 124 <;> (first | rw [if_pos q, if_neg (by omega)] | rw [if_neg q]) <;> omega
theorem bns_t {W : List Nat} (h : 0 < W.length) : bns W = (if W.headD 0 = 38 ∨ W.headD 0 = 124 then 1 else 0) + bns W.tail ∧ nob W = (if W.headD 0 = 40 then 0 else 1) + nob W.tail ∧ opn W = (if W.headD 0 = 40 then 1 else 0) + opn W.tail := by
  cases W with
  | nil => exact absurd h (by simp)
  | cons s W => exact ⟨rfl, rfl, rfl⟩
theorem okW_t {W : List Nat} (h : okW W) : okW W.tail := by
  cases W with
  | nil => exact h
  | cons s W => exact h.2.2
theorem okW_h {W : List Nat} (h : okW W) (h2 : W.headD 0 = 38 ∨ W.headD 0 = 124) : W.tail.headD 0 ≠ 33 := by
  cases W with
  | nil => exact absurd h2 (by show ¬ ((0 : Nat) = 38 ∨ (0 : Nat) = 124); decide)
  | cons s W => exact h.2.1 h2
theorem okW_le {W : List Nat} (h : okW W) : W.headD 0 ≤ 124 := by
  cases W with
  | nil => exact Nat.zero_le _
  | cons s W => obtain ⟨h, -⟩ := h; show s ≤ 124; omega
theorem len_sg {ns : List Nd} {x : Nd} : (ns ++ [x]).length = ns.length + 1 := by rw [List.length_append, List.length_singleton]
theorem c_Re_addOperand {d : Nat} {J : Nat → Nat → Int32} {R : Nat → Nat → Option Nat} {L : Nat → Nat → Int64} {sh : Nat → Nat × Nat} {N : Nat} (hS : ShOK sh) (hR : RfOK R) (hT0 : R 731 0 = some 730) {T : Nat → Int32} {n p : Nat} {due : Bool} {ob : Nat} {ns : List Nd} {W Lo : List Nat} (hr : RS T n p due ob ns W Lo J) (hn : n ≤ 250) (hp : p ≤ n) {k a b s : Nat} (h1 : ns.length < 250) (h2 : Lo.length < 250) (hd : 2 ≤ d) : Mt mi_Re_addOperand d 0 0 [.ref 731, .int (nI k), .int (nI a), .int (nI b), .int (nI s)] (J, R, L, sh, N) (fun x h2 => x = some (.int (nI 1)) ∧ ∃ K, h2 = (K, R, L, sh, N) ∧ FrV J K ∧ RS T n p false ob (ns ++ [(k, a, b, s)]) W (ns.length :: Lo) K) := by
  refine Mt.of pn_Re (Nat.le_of_ble_eq_true rfl) ?_
  show Run mi_Re_addOperand d 0 0 0 [(0, .ref 731), (1, .int (nI k)), (2, .int (nI a)), (3, .int (nI b)), (4, .int (nI s))] [] (J, R, L, sh, N) _
  refine r_aload_n (x := some 731) (pc2 := 1) d_Re_addOperand_0 rfl rfl ?_
  refine r_iload_n (pc2 := 2) d_Re_addOperand_1 rfl rfl ?_
  refine r_iload_n (pc2 := 3) d_Re_addOperand_2 rfl rfl ?_
  refine r_iload_n (pc2 := 4) d_Re_addOperand_3 rfl rfl ?_
  refine r_iload (pc2 := 6) d_Re_addOperand_4 rfl rfl ?_
  refine r_callv (M2 := mi_Re_addNode) (pc2 := 9) d_Re_addOperand_6 rfl k_Re_134 cm_Re_addNode cv_Re_addNode (sh_731 hS) (by decide) rfl rfl rfl (Nat.le_of_ble_eq_true rfl) (c_Re_addNode hS hR hT0 hr hn (by omega) (k := k) (a := a) (b := b) (s := s) (fun _ => rfl) (by omega) (by omega)) (d2 := d - 1) (by omega) (Nat.le_of_eq (Nat.zero_add _)) (Nat.le_of_eq (Nat.zero_add _)) (fun r2 h2 hq2 => ?_)
  obtain ⟨rfl, K1, rfl, hfK1, hrK1⟩ := hq2
  refine r_aload_n (x := some 731) (pc2 := 10) d_Re_addOperand_9 rfl rfl ?_
  refine r_iconst (v := nI 0) (pc2 := 11) d_Re_addOperand_10 rfl (by decide) ?_
  refine q_putI (pc2 := 14) d_Re_addOperand_11 rfl k_Re_58 (Or.inr ⟨rfl, by decide⟩) (sh_731 hS) (Or.inl rfl) (fun I2 hI2 => ?_)
  have hr3 := hrK1.du bI_ff.symm hI2
  refine r_iconst (v := nI 1) (pc2 := 15) d_Re_addOperand_14 rfl (by decide) ?_
  refine Run.ret (some (.int (nI 1))) d_Re_addOperand_15 ⟨_, rfl, by decide⟩ ?_
  exact ⟨rfl, _, rfl, ((FrV.rf.t hfK1).p hI2 (by decide)), hr3⟩
theorem l_Re_negate {d : Nat} {J : Nat → Nat → Int32} {R : Nat → Nat → Option Nat} {L : Nat → Nat → Int64} {sh : Nat → Nat × Nat} {N : Nat} (hS : ShOK sh) (hR : RfOK R) (hT0 : R 731 0 = some 730) {T : Nat → Int32} {n p : Nat} {due : Bool} {ob : Nat} (hn : n ≤ 250) (hp : p ≤ n) {ns0 : List Nd} {W0 Lo0 : List Nat} {Q : Option Value → HS → Prop} (hq : ∀ K, FrV J K → RS T n p due ob (ng ns0 W0 Lo0).1 (ng ns0 W0 Lo0).2.1 (ng ns0 W0 Lo0).2.2 K → Q none (K, R, L, sh, N)) (hd : 1 ≤ d) : ∀ (n_ : Nat) (ns : List Nd) (W Lo : List Nat) (K0 : Nat → Nat → Int32), W.length = n_ → (RS T n p due ob ns W Lo K0) → (FrV J K0) → (ng ns0 W0 Lo0 = ng ns W Lo) → (okW W) → (Lo.length = bns W + 1) → (ns.length + nob W ≤ p) → (W.length ≤ 250) → Run mi_Re_negate d 0 0 0 [(0, .ref 731)] [] (K0, R, L, sh, N) Q := by
  intro n_
  induction n_ using Nat.strongRecOn with | ind n_ ih_ => ?_
  intro ns W Lo K0 hn_ v0_ v1_ v2_ v3_ v4_ v5_ v6_
  have hwh := okW_le v3_
  have htl : W.tail.length = W.length - 1 := List.length_tail
  refine r_aload_n (x := some 731) (pc2 := 1) d_Re_negate_0 rfl rfl ?_
  refine q_getI (x := nI W.length) (pc2 := 4) d_Re_negate_1 rfl k_Re_52 (by decide) (sh_731 hS) v0_.1.2.2.2.2.1 ?_
  refine q_if_le (tgt := 47) (A := ((W.length : Nat) : Int)) (pc2 := 7) d_Re_negate_4 rfl rfl (nI_toInt (by omega)) (fun c1 => ?_) (fun c1 => ?_)
  · refine Run.ret none d_Re_negate_47 rfl ?_
    have e_ : ng ns W Lo = (ns, W, Lo) := ng_0 (by first | omega | (rw [headD_0 (W := W) (by omega)]; show (0 : Nat) ≠ 33; decide))
    exact hq _ v1_ (by rw [v2_, e_]; exact v0_)
  · have hbt := bns_t (W := W) (by omega)
    refine r_aload_n (x := some 731) (pc2 := 8) d_Re_negate_7 rfl rfl ?_
    refine q_getR (x := some 739) (pc2 := 11) d_Re_negate_8 rfl k_Re_49 rfl (sh_731 hS) (rf_731_12 hR) ?_
    refine r_aload_n (x := some 731) (pc2 := 12) d_Re_negate_11 rfl rfl ?_
    refine q_getI (x := nI W.length) (pc2 := 15) d_Re_negate_12 rfl k_Re_52 (by decide) (sh_731 hS) v0_.1.2.2.2.2.1 ?_
    refine r_iconst (v := nI 1) (pc2 := 16) d_Re_negate_15 rfl (by decide) ?_
    refine q_isubN (pc2 := 17) d_Re_negate_16 rfl (by omega) ?_
    refine q_iaload (q := W.length - 1) (x := nI (W.headD 0)) (pc2 := 18) d_Re_negate_17 rfl (sh_739 hS) (nI_toInt (by omega)) (by omega) (LL_head (v0_).2.2.2.1 (by omega)) ?_
    refine r_bipush (v := nI 33) (pc2 := 20) d_Re_negate_18 rfl (by decide) ?_
    refine q_icmp_ne (tgt := 47) (A := ((W.headD 0 : Nat) : Int)) (B := (33 : Int)) (pc2 := 23) d_Re_negate_20 rfl rfl (nI_toInt (by omega)) (nI_toInt (by omega)) (fun c2 => ?_) (fun c2 => ?_)
    · refine Run.ret none d_Re_negate_47 rfl ?_
      have e_ : ng ns W Lo = (ns, W, Lo) := ng_0 (by first | omega | (rw [headD_0 (W := W) (by omega)]; show (0 : Nat) ≠ 33; decide))
      exact hq _ v1_ (by rw [v2_, e_]; exact v0_)
    · obtain ⟨hb1, hb2, -⟩ := hbt
      rw [if_neg (by omega)] at hb1 hb2
      have hbl := bns_le (W := W.tail)
      refine r_aload_n (x := some 731) (pc2 := 24) d_Re_negate_23 rfl rfl ?_
      refine r_iconst (v := nI 3) (pc2 := 25) d_Re_negate_24 rfl (by decide) ?_
      refine r_aload_n (x := some 731) (pc2 := 26) d_Re_negate_25 rfl rfl ?_
      refine r_callv (M2 := mi_Re_takeLoose) (pc2 := 29) d_Re_negate_26 rfl k_Re_138 cm_Re_takeLoose cv_Re_takeLoose (sh_731 hS) (by decide) rfl rfl rfl (Nat.le_of_ble_eq_true rfl) (c_Re_takeLoose hS hR hT0 v0_ hn (by omega) (by omega) (by omega)) (d2 := d - 1) (by omega) (Nat.le_of_eq (Nat.zero_add _)) (Nat.le_of_eq (Nat.zero_add _)) (fun r2 h2 hq2 => ?_)
      obtain ⟨rfl, K3, rfl, hfK3, hrK3⟩ := hq2
      refine r_iconst (v := (-1 : Int32)) (pc2 := 30) d_Re_negate_29 rfl (by decide) ?_
      refine r_iconst (v := nI 0) (pc2 := 31) d_Re_negate_30 rfl (by decide) ?_
      refine r_callv (M2 := mi_Re_addNode) (pc2 := 34) d_Re_negate_31 rfl k_Re_134 cm_Re_addNode cv_Re_addNode (sh_731 hS) (by decide) rfl rfl rfl (Nat.le_of_ble_eq_true rfl) (c_Re_addNode hS hR hT0 hrK3 hn (by omega) (k := 3) (a := Lo.headD 0) (b := 0) (s := 0) (fun h => absurd rfl h) (by omega) (by rw [List.length_tail]; omega)) (d2 := d - 1) (by omega) (Nat.le_of_eq (Nat.zero_add _)) (Nat.le_of_eq (Nat.zero_add _)) (fun r2 h2 hq2 => ?_)
      obtain ⟨rfl, K4, rfl, hfK4, hrK4⟩ := hq2
      refine r_aload_n (x := some 731) (pc2 := 35) d_Re_negate_34 rfl rfl ?_
      refine r_dup (pc2 := 36) d_Re_negate_35 rfl rfl ?_
      refine q_getI (x := nI W.length) (pc2 := 39) d_Re_negate_36 rfl k_Re_52 (by decide) (sh_731 hS) hrK4.1.2.2.2.2.1 ?_
      refine r_iconst (v := nI 1) (pc2 := 40) d_Re_negate_39 rfl (by decide) ?_
      refine q_isubN (pc2 := 41) d_Re_negate_40 rfl (by omega) ?_
      refine q_putI (pc2 := 44) d_Re_negate_41 rfl k_Re_52 (Or.inl rfl) (sh_731 hS) (Or.inl rfl) (fun I5 hI5 => ?_)
      refine r_goto (tgt := 0) d_Re_negate_44 rfl ?_
      have hr6 := hrK4.wt (by rw [List.length_tail]; try omega) hI5
      refine Run.sub (l2 := [(0, .ref 731)]) ⟨rfl, trivial⟩ ?_
      exact ih_ (W.tail.length) (by omega) (ns ++ [(3, Lo.headD 0, 0, 0)]) W.tail (ns.length :: Lo.tail) I5 rfl (hr6) ((((v1_.t hfK3).t hfK4).p hI5 (by decide))) (v2_.trans (ng_st (by omega) (by omega) (by omega))) (okW_t v3_) (by have := (bns_t (W := W) (by omega)).1; rw [if_neg (by omega)] at this; rw [List.length_cons, List.length_tail]; omega) (by have := (bns_t (W := W) (by omega)).2.1; rw [if_neg (by omega)] at this; rw [len_sg]; omega) (by rw [List.length_tail]; omega)
theorem c_Re_negate {d : Nat} {J : Nat → Nat → Int32} {R : Nat → Nat → Option Nat} {L : Nat → Nat → Int64} {sh : Nat → Nat × Nat} {N : Nat} (hS : ShOK sh) (hR : RfOK R) (hT0 : R 731 0 = some 730) {T : Nat → Int32} {n p : Nat} {due : Bool} {ob : Nat} {ns : List Nd} {W Lo : List Nat} (hr : RS T n p due ob ns W Lo J) (hn : n ≤ 250) (hp : p ≤ n) (hd : 1 ≤ d) (h1 : okW W) (h2 : Lo.length = bns W + 1) (h3 : ns.length + nob W ≤ p) (h4 : W.length ≤ 250) : Mt mi_Re_negate d 0 0 [.ref 731] (J, R, L, sh, N) (fun x h2 => x = none ∧ ∃ K, h2 = (K, R, L, sh, N) ∧ FrV J K ∧ RS T n p due ob (ng ns W Lo).1 (ng ns W Lo).2.1 (ng ns W Lo).2.2 K) := by
  refine Mt.of pn_Re (Nat.le_of_ble_eq_true rfl) ?_
  show Run mi_Re_negate d 0 0 0 [(0, .ref 731)] [] (J, R, L, sh, N) _
  exact l_Re_negate hS hR hT0 hn hp (fun K a b => ⟨rfl, K, rfl, a, b⟩) hd _ ns W Lo J rfl hr FrV.rf rfl h1 h2 h3 h4
theorem l_Re_joinWaiting {d : Nat} {J : Nat → Nat → Int32} {R : Nat → Nat → Option Nat} {L : Nat → Nat → Int64} {sh : Nat → Nat × Nat} {N : Nat} (hS : ShOK sh) (hR : RfOK R) (hT0 : R 731 0 = some 730) {T : Nat → Int32} {n p : Nat} {due : Bool} {ob : Nat} (hn : n ≤ 250) (hp : p ≤ n) {ns0 : List Nd} {W0 Lo0 : List Nat} {e : Bool} {Q : Option Value → HS → Prop} (hq : ∀ K, FrV J K → RS T n p due ob (jn ns0 W0 Lo0 e).1 (jn ns0 W0 Lo0 e).2.1 (jn ns0 W0 Lo0 e).2.2 K → Q none (K, R, L, sh, N)) (hd : 1 ≤ d) : ∀ (n_ : Nat) (ns : List Nd) (W Lo : List Nat) (K0 : Nat → Nat → Int32), W.length = n_ → (RS T n p due ob ns W Lo K0) → (FrV J K0) → (jn ns0 W0 Lo0 e = jn ns W Lo e) → (okW W) → (Lo.length = bns W + 1) → (ns.length + nob W ≤ p) → (W.length ≤ 250) → (1 ≤ ns.length) → Run mi_Re_joinWaiting d 0 0 0 [(0, .ref 731), (1, .int (bI (e = true)))] [] (K0, R, L, sh, N) Q := by
  intro n_
  induction n_ using Nat.strongRecOn with | ind n_ ih_ => ?_
  intro ns W Lo K0 hn_ v0_ v1_ v2_ v3_ v4_ v5_ v6_ v7_
  have hwh := okW_le v3_
  have htl : W.tail.length = W.length - 1 := List.length_tail
  refine r_aload_n (x := some 731) (pc2 := 1) d_Re_joinWaiting_0 rfl rfl ?_
  refine q_getI (x := nI W.length) (pc2 := 4) d_Re_joinWaiting_1 rfl k_Re_52 (by decide) (sh_731 hS) v0_.1.2.2.2.2.1 ?_
  refine q_if_le (tgt := 81) (A := ((W.length : Nat) : Int)) (pc2 := 7) d_Re_joinWaiting_4 rfl rfl (nI_toInt (by omega)) (fun c1 => ?_) (fun c1 => ?_)
  · refine Run.ret none d_Re_joinWaiting_81 rfl ?_
    have e_ : jn ns W Lo e = (ns, W, Lo) := by first | exact jn_0 (by omega) (fun he => by first | omega | (exact absurd he (by assumption))) | (rw [headD_0 (W := W) (by omega)]; exact jn_0 (by show (0 : Nat) ≠ 38; decide) (fun _ => by show (0 : Nat) ≠ 124; decide))
    exact hq _ v1_ (by rw [v2_, e_]; exact v0_)
  · have hbt := bns_t (W := W) (by omega)
    refine r_aload_n (x := some 731) (pc2 := 8) d_Re_joinWaiting_7 rfl rfl ?_
    refine q_getR (x := some 739) (pc2 := 11) d_Re_joinWaiting_8 rfl k_Re_49 rfl (sh_731 hS) (rf_731_12 hR) ?_
    refine r_aload_n (x := some 731) (pc2 := 12) d_Re_joinWaiting_11 rfl rfl ?_
    refine q_getI (x := nI W.length) (pc2 := 15) d_Re_joinWaiting_12 rfl k_Re_52 (by decide) (sh_731 hS) v0_.1.2.2.2.2.1 ?_
    refine r_iconst (v := nI 1) (pc2 := 16) d_Re_joinWaiting_15 rfl (by decide) ?_
    refine q_isubN (pc2 := 17) d_Re_joinWaiting_16 rfl (by omega) ?_
    refine q_iaload (q := W.length - 1) (x := nI (W.headD 0)) (pc2 := 18) d_Re_joinWaiting_17 rfl (sh_739 hS) (nI_toInt (by omega)) (by omega) (LL_head (v0_).2.2.2.1 (by omega)) ?_
    refine r_istore_n (pc2 := 19) d_Re_joinWaiting_18 rfl rfl (Nat.le_of_ble_eq_true rfl) ?_
    refine r_iload_n (pc2 := 20) d_Re_joinWaiting_19 rfl rfl ?_
    refine r_bipush (v := nI 38) (pc2 := 22) d_Re_joinWaiting_20 rfl (by decide) ?_
    refine q_icmp_eq (tgt := 36) (A := ((W.headD 0 : Nat) : Int)) (B := (38 : Int)) (pc2 := 25) d_Re_joinWaiting_22 rfl rfl (nI_toInt (by omega)) (nI_toInt (by omega)) (fun c2 => ?_) (fun c2 => ?_)
    · obtain ⟨hb1, hb2, -⟩ := hbt
      rw [if_pos (by omega)] at hb1
      rw [if_neg (by omega)] at hb2
      have hbl := bns_le (W := W.tail)
      refine r_aload_n (x := some 731) (pc2 := 37) d_Re_joinWaiting_36 rfl rfl ?_
      refine r_callv (M2 := mi_Re_takeLoose) (pc2 := 40) d_Re_joinWaiting_37 rfl k_Re_138 cm_Re_takeLoose cv_Re_takeLoose (sh_731 hS) (by decide) rfl rfl rfl (Nat.le_of_ble_eq_true rfl) (c_Re_takeLoose hS hR hT0 v0_ hn (by omega) (by first | omega | (rw [List.length_tail]; omega)) (by first | omega | (rw [List.length_tail]; omega))) (d2 := d - 1) (by omega) (Nat.le_of_eq (Nat.zero_add _)) (Nat.le_of_eq (Nat.zero_add _)) (fun r2 h2 hq2 => ?_)
      obtain ⟨rfl, K3, rfl, hfK3, hrK3⟩ := hq2
      refine r_istore_n (pc2 := 41) d_Re_joinWaiting_40 rfl rfl (Nat.le_of_ble_eq_true rfl) ?_
      refine r_aload_n (x := some 731) (pc2 := 42) d_Re_joinWaiting_41 rfl rfl ?_
      refine r_callv (M2 := mi_Re_takeLoose) (pc2 := 45) d_Re_joinWaiting_42 rfl k_Re_138 cm_Re_takeLoose cv_Re_takeLoose (sh_731 hS) (by decide) rfl rfl rfl (Nat.le_of_ble_eq_true rfl) (c_Re_takeLoose hS hR hT0 hrK3 hn (by omega) (by first | omega | (rw [List.length_tail]; omega)) (by first | omega | (rw [List.length_tail]; omega))) (d2 := d - 1) (by omega) (Nat.le_of_eq (Nat.zero_add _)) (Nat.le_of_eq (Nat.zero_add _)) (fun r2 h2 hq2 => ?_)
      obtain ⟨rfl, K4, rfl, hfK4, hrK4⟩ := hq2
      refine r_istore (pc2 := 47) d_Re_joinWaiting_45 rfl (Nat.le_of_ble_eq_true rfl) ?_
      refine r_aload_n (x := some 731) (pc2 := 48) d_Re_joinWaiting_47 rfl rfl ?_
      refine r_iload_n (pc2 := 49) d_Re_joinWaiting_48 rfl rfl ?_
      refine r_bipush (v := nI 38) (pc2 := 51) d_Re_joinWaiting_49 rfl (by decide) ?_
      refine q_icmp_ne (tgt := 59) (A := ((W.headD 0 : Nat) : Int)) (B := (38 : Int)) (pc2 := 54) d_Re_joinWaiting_51 rfl rfl (nI_toInt (by omega)) (nI_toInt (by omega)) (fun c5 => ?_) (fun c5 => ?_)
      · refine r_bipush (v := nI 8) (pc2 := 61) d_Re_joinWaiting_59 rfl (by decide) ?_
        refine r_iload (pc2 := 63) d_Re_joinWaiting_61 rfl rfl ?_
        refine r_iload_n (pc2 := 64) d_Re_joinWaiting_63 rfl rfl ?_
        refine r_iconst (v := nI 0) (pc2 := 65) d_Re_joinWaiting_64 rfl (by decide) ?_
        refine r_callv (M2 := mi_Re_addNode) (pc2 := 68) d_Re_joinWaiting_65 rfl k_Re_134 cm_Re_addNode cv_Re_addNode (sh_731 hS) (by decide) rfl rfl rfl (Nat.le_of_ble_eq_true rfl) (c_Re_addNode hS hR hT0 hrK4 hn (by omega) (k := 8) (a := Lo.tail.headD 0) (b := Lo.headD 0) (s := 0) (fun _ => rfl) (by omega) (by rw [List.length_tail, List.length_tail]; omega)) (d2 := d - 1) (by omega) (Nat.le_of_eq (Nat.zero_add _)) (Nat.le_of_eq (Nat.zero_add _)) (fun r2 h2 hq2 => ?_)
        obtain ⟨rfl, K6, rfl, hfK6, hrK6⟩ := hq2
        refine r_aload_n (x := some 731) (pc2 := 69) d_Re_joinWaiting_68 rfl rfl ?_
        refine r_dup (pc2 := 70) d_Re_joinWaiting_69 rfl rfl ?_
        refine q_getI (x := nI W.length) (pc2 := 73) d_Re_joinWaiting_70 rfl k_Re_52 (by decide) (sh_731 hS) hrK6.1.2.2.2.2.1 ?_
        refine r_iconst (v := nI 1) (pc2 := 74) d_Re_joinWaiting_73 rfl (by decide) ?_
        refine q_isubN (pc2 := 75) d_Re_joinWaiting_74 rfl (by omega) ?_
        refine q_putI (pc2 := 78) d_Re_joinWaiting_75 rfl k_Re_52 (Or.inl rfl) (sh_731 hS) (Or.inl rfl) (fun I7 hI7 => ?_)
        refine r_goto (tgt := 0) d_Re_joinWaiting_78 rfl ?_
        have hr8 := hrK6.wt (by rw [List.length_tail]; try omega) hI7
        refine Run.sub (l2 := [(0, .ref 731), (1, .int (bI (e = true)))]) ⟨rfl, rfl, trivial⟩ ?_
        exact ih_ (W.tail.length) (by omega) (ns ++ [(8, Lo.tail.headD 0, Lo.headD 0, 0)]) W.tail (ns.length :: Lo.tail.tail) I7 rfl (hr8) (((((v1_.t hfK3).t hfK4).t hfK6).p hI7 (by decide))) (v2_.trans ((jn_st (by omega) (by first | (exact Or.inl (by omega)) | (exact Or.inr ⟨by first | assumption, by omega⟩)) (by omega)).trans (by rw [if_neg (by omega)]))) (okW_t v3_) (by rw [List.length_cons, List.length_tail, List.length_tail]; omega) (by rw [len_sg]; omega) (by rw [List.length_tail]; omega) (by rw [len_sg]; omega)
      · refine r_bipush (v := nI 7) (pc2 := 56) d_Re_joinWaiting_54 rfl (by decide) ?_
        refine r_goto (tgt := 61) d_Re_joinWaiting_56 rfl ?_
        refine r_iload (pc2 := 63) d_Re_joinWaiting_61 rfl rfl ?_
        refine r_iload_n (pc2 := 64) d_Re_joinWaiting_63 rfl rfl ?_
        refine r_iconst (v := nI 0) (pc2 := 65) d_Re_joinWaiting_64 rfl (by decide) ?_
        refine r_callv (M2 := mi_Re_addNode) (pc2 := 68) d_Re_joinWaiting_65 rfl k_Re_134 cm_Re_addNode cv_Re_addNode (sh_731 hS) (by decide) rfl rfl rfl (Nat.le_of_ble_eq_true rfl) (c_Re_addNode hS hR hT0 hrK4 hn (by omega) (k := 7) (a := Lo.tail.headD 0) (b := Lo.headD 0) (s := 0) (fun _ => rfl) (by omega) (by rw [List.length_tail, List.length_tail]; omega)) (d2 := d - 1) (by omega) (Nat.le_of_eq (Nat.zero_add _)) (Nat.le_of_eq (Nat.zero_add _)) (fun r2 h2 hq2 => ?_)
        obtain ⟨rfl, K9, rfl, hfK9, hrK9⟩ := hq2
        refine r_aload_n (x := some 731) (pc2 := 69) d_Re_joinWaiting_68 rfl rfl ?_
        refine r_dup (pc2 := 70) d_Re_joinWaiting_69 rfl rfl ?_
        refine q_getI (x := nI W.length) (pc2 := 73) d_Re_joinWaiting_70 rfl k_Re_52 (by decide) (sh_731 hS) hrK9.1.2.2.2.2.1 ?_
        refine r_iconst (v := nI 1) (pc2 := 74) d_Re_joinWaiting_73 rfl (by decide) ?_
        refine q_isubN (pc2 := 75) d_Re_joinWaiting_74 rfl (by omega) ?_
        refine q_putI (pc2 := 78) d_Re_joinWaiting_75 rfl k_Re_52 (Or.inl rfl) (sh_731 hS) (Or.inl rfl) (fun I10 hI10 => ?_)
        refine r_goto (tgt := 0) d_Re_joinWaiting_78 rfl ?_
        have hr11 := hrK9.wt (by rw [List.length_tail]; try omega) hI10
        refine Run.sub (l2 := [(0, .ref 731), (1, .int (bI (e = true)))]) ⟨rfl, rfl, trivial⟩ ?_
        exact ih_ (W.tail.length) (by omega) (ns ++ [(7, Lo.tail.headD 0, Lo.headD 0, 0)]) W.tail (ns.length :: Lo.tail.tail) I10 rfl (hr11) (((((v1_.t hfK3).t hfK4).t hfK9).p hI10 (by decide))) (v2_.trans ((jn_st (by omega) (by first | (exact Or.inl (by omega)) | (exact Or.inr ⟨by first | assumption, by omega⟩)) (by omega)).trans (by rw [if_pos (by omega)]))) (okW_t v3_) (by rw [List.length_cons, List.length_tail, List.length_tail]; omega) (by rw [len_sg]; omega) (by rw [List.length_tail]; omega) (by rw [len_sg]; omega)
    · refine r_iload_n (pc2 := 26) d_Re_joinWaiting_25 rfl rfl ?_
      refine q_bif_eq (tgt := 35) (pc2 := 29) d_Re_joinWaiting_26 rfl rfl (fun c12 => ?_) (fun c12 => ?_)
      · refine Run.ret none d_Re_joinWaiting_35 rfl ?_
        have e_ : jn ns W Lo e = (ns, W, Lo) := by first | exact jn_0 (by omega) (fun he => by first | omega | (exact absurd he (by assumption))) | (rw [headD_0 (W := W) (by omega)]; exact jn_0 (by show (0 : Nat) ≠ 38; decide) (fun _ => by show (0 : Nat) ≠ 124; decide))
        exact hq _ v1_ (by rw [v2_, e_]; exact v0_)
      · refine r_iload_n (pc2 := 30) d_Re_joinWaiting_29 rfl rfl ?_
        refine r_bipush (v := nI 124) (pc2 := 32) d_Re_joinWaiting_30 rfl (by decide) ?_
        refine q_icmp_eq (tgt := 36) (A := ((W.headD 0 : Nat) : Int)) (B := (124 : Int)) (pc2 := 35) d_Re_joinWaiting_32 rfl rfl (nI_toInt (by omega)) (nI_toInt (by omega)) (fun c13 => ?_) (fun c13 => ?_)
        · obtain ⟨hb1, hb2, -⟩ := hbt
          rw [if_pos (by omega)] at hb1
          rw [if_neg (by omega)] at hb2
          have hbl := bns_le (W := W.tail)
          refine r_aload_n (x := some 731) (pc2 := 37) d_Re_joinWaiting_36 rfl rfl ?_
          refine r_callv (M2 := mi_Re_takeLoose) (pc2 := 40) d_Re_joinWaiting_37 rfl k_Re_138 cm_Re_takeLoose cv_Re_takeLoose (sh_731 hS) (by decide) rfl rfl rfl (Nat.le_of_ble_eq_true rfl) (c_Re_takeLoose hS hR hT0 v0_ hn (by omega) (by first | omega | (rw [List.length_tail]; omega)) (by first | omega | (rw [List.length_tail]; omega))) (d2 := d - 1) (by omega) (Nat.le_of_eq (Nat.zero_add _)) (Nat.le_of_eq (Nat.zero_add _)) (fun r2 h2 hq2 => ?_)
          obtain ⟨rfl, K14, rfl, hfK14, hrK14⟩ := hq2
          refine r_istore_n (pc2 := 41) d_Re_joinWaiting_40 rfl rfl (Nat.le_of_ble_eq_true rfl) ?_
          refine r_aload_n (x := some 731) (pc2 := 42) d_Re_joinWaiting_41 rfl rfl ?_
          refine r_callv (M2 := mi_Re_takeLoose) (pc2 := 45) d_Re_joinWaiting_42 rfl k_Re_138 cm_Re_takeLoose cv_Re_takeLoose (sh_731 hS) (by decide) rfl rfl rfl (Nat.le_of_ble_eq_true rfl) (c_Re_takeLoose hS hR hT0 hrK14 hn (by omega) (by first | omega | (rw [List.length_tail]; omega)) (by first | omega | (rw [List.length_tail]; omega))) (d2 := d - 1) (by omega) (Nat.le_of_eq (Nat.zero_add _)) (Nat.le_of_eq (Nat.zero_add _)) (fun r2 h2 hq2 => ?_)
          obtain ⟨rfl, K15, rfl, hfK15, hrK15⟩ := hq2
          refine r_istore (pc2 := 47) d_Re_joinWaiting_45 rfl (Nat.le_of_ble_eq_true rfl) ?_
          refine r_aload_n (x := some 731) (pc2 := 48) d_Re_joinWaiting_47 rfl rfl ?_
          refine r_iload_n (pc2 := 49) d_Re_joinWaiting_48 rfl rfl ?_
          refine r_bipush (v := nI 38) (pc2 := 51) d_Re_joinWaiting_49 rfl (by decide) ?_
          refine q_icmp_ne (tgt := 59) (A := ((W.headD 0 : Nat) : Int)) (B := (38 : Int)) (pc2 := 54) d_Re_joinWaiting_51 rfl rfl (nI_toInt (by omega)) (nI_toInt (by omega)) (fun c16 => ?_) (fun c16 => ?_)
          · refine r_bipush (v := nI 8) (pc2 := 61) d_Re_joinWaiting_59 rfl (by decide) ?_
            refine r_iload (pc2 := 63) d_Re_joinWaiting_61 rfl rfl ?_
            refine r_iload_n (pc2 := 64) d_Re_joinWaiting_63 rfl rfl ?_
            refine r_iconst (v := nI 0) (pc2 := 65) d_Re_joinWaiting_64 rfl (by decide) ?_
            refine r_callv (M2 := mi_Re_addNode) (pc2 := 68) d_Re_joinWaiting_65 rfl k_Re_134 cm_Re_addNode cv_Re_addNode (sh_731 hS) (by decide) rfl rfl rfl (Nat.le_of_ble_eq_true rfl) (c_Re_addNode hS hR hT0 hrK15 hn (by omega) (k := 8) (a := Lo.tail.headD 0) (b := Lo.headD 0) (s := 0) (fun _ => rfl) (by omega) (by rw [List.length_tail, List.length_tail]; omega)) (d2 := d - 1) (by omega) (Nat.le_of_eq (Nat.zero_add _)) (Nat.le_of_eq (Nat.zero_add _)) (fun r2 h2 hq2 => ?_)
            obtain ⟨rfl, K17, rfl, hfK17, hrK17⟩ := hq2
            refine r_aload_n (x := some 731) (pc2 := 69) d_Re_joinWaiting_68 rfl rfl ?_
            refine r_dup (pc2 := 70) d_Re_joinWaiting_69 rfl rfl ?_
            refine q_getI (x := nI W.length) (pc2 := 73) d_Re_joinWaiting_70 rfl k_Re_52 (by decide) (sh_731 hS) hrK17.1.2.2.2.2.1 ?_
            refine r_iconst (v := nI 1) (pc2 := 74) d_Re_joinWaiting_73 rfl (by decide) ?_
            refine q_isubN (pc2 := 75) d_Re_joinWaiting_74 rfl (by omega) ?_
            refine q_putI (pc2 := 78) d_Re_joinWaiting_75 rfl k_Re_52 (Or.inl rfl) (sh_731 hS) (Or.inl rfl) (fun I18 hI18 => ?_)
            refine r_goto (tgt := 0) d_Re_joinWaiting_78 rfl ?_
            have hr19 := hrK17.wt (by rw [List.length_tail]; try omega) hI18
            refine Run.sub (l2 := [(0, .ref 731), (1, .int (bI (e = true)))]) ⟨rfl, rfl, trivial⟩ ?_
            exact ih_ (W.tail.length) (by omega) (ns ++ [(8, Lo.tail.headD 0, Lo.headD 0, 0)]) W.tail (ns.length :: Lo.tail.tail) I18 rfl (hr19) (((((v1_.t hfK14).t hfK15).t hfK17).p hI18 (by decide))) (v2_.trans ((jn_st (by omega) (by first | (exact Or.inl (by omega)) | (exact Or.inr ⟨by first | assumption, by omega⟩)) (by omega)).trans (by rw [if_neg (by omega)]))) (okW_t v3_) (by rw [List.length_cons, List.length_tail, List.length_tail]; omega) (by rw [len_sg]; omega) (by rw [List.length_tail]; omega) (by rw [len_sg]; omega)
          · refine r_bipush (v := nI 7) (pc2 := 56) d_Re_joinWaiting_54 rfl (by decide) ?_
            refine r_goto (tgt := 61) d_Re_joinWaiting_56 rfl ?_
            refine r_iload (pc2 := 63) d_Re_joinWaiting_61 rfl rfl ?_
            refine r_iload_n (pc2 := 64) d_Re_joinWaiting_63 rfl rfl ?_
            refine r_iconst (v := nI 0) (pc2 := 65) d_Re_joinWaiting_64 rfl (by decide) ?_
            refine r_callv (M2 := mi_Re_addNode) (pc2 := 68) d_Re_joinWaiting_65 rfl k_Re_134 cm_Re_addNode cv_Re_addNode (sh_731 hS) (by decide) rfl rfl rfl (Nat.le_of_ble_eq_true rfl) (c_Re_addNode hS hR hT0 hrK15 hn (by omega) (k := 7) (a := Lo.tail.headD 0) (b := Lo.headD 0) (s := 0) (fun _ => rfl) (by omega) (by rw [List.length_tail, List.length_tail]; omega)) (d2 := d - 1) (by omega) (Nat.le_of_eq (Nat.zero_add _)) (Nat.le_of_eq (Nat.zero_add _)) (fun r2 h2 hq2 => ?_)
            obtain ⟨rfl, K20, rfl, hfK20, hrK20⟩ := hq2
            refine r_aload_n (x := some 731) (pc2 := 69) d_Re_joinWaiting_68 rfl rfl ?_
            refine r_dup (pc2 := 70) d_Re_joinWaiting_69 rfl rfl ?_
            refine q_getI (x := nI W.length) (pc2 := 73) d_Re_joinWaiting_70 rfl k_Re_52 (by decide) (sh_731 hS) hrK20.1.2.2.2.2.1 ?_
            refine r_iconst (v := nI 1) (pc2 := 74) d_Re_joinWaiting_73 rfl (by decide) ?_
            refine q_isubN (pc2 := 75) d_Re_joinWaiting_74 rfl (by omega) ?_
            refine q_putI (pc2 := 78) d_Re_joinWaiting_75 rfl k_Re_52 (Or.inl rfl) (sh_731 hS) (Or.inl rfl) (fun I21 hI21 => ?_)
            refine r_goto (tgt := 0) d_Re_joinWaiting_78 rfl ?_
            have hr22 := hrK20.wt (by rw [List.length_tail]; try omega) hI21
            refine Run.sub (l2 := [(0, .ref 731), (1, .int (bI (e = true)))]) ⟨rfl, rfl, trivial⟩ ?_
            exact ih_ (W.tail.length) (by omega) (ns ++ [(7, Lo.tail.headD 0, Lo.headD 0, 0)]) W.tail (ns.length :: Lo.tail.tail) I21 rfl (hr22) (((((v1_.t hfK14).t hfK15).t hfK20).p hI21 (by decide))) (v2_.trans ((jn_st (by omega) (by first | (exact Or.inl (by omega)) | (exact Or.inr ⟨by first | assumption, by omega⟩)) (by omega)).trans (by rw [if_pos (by omega)]))) (okW_t v3_) (by rw [List.length_cons, List.length_tail, List.length_tail]; omega) (by rw [len_sg]; omega) (by rw [List.length_tail]; omega) (by rw [len_sg]; omega)
        · refine Run.ret none d_Re_joinWaiting_35 rfl ?_
          have e_ : jn ns W Lo e = (ns, W, Lo) := by first | exact jn_0 (by omega) (fun he => by first | omega | (exact absurd he (by assumption))) | (rw [headD_0 (W := W) (by omega)]; exact jn_0 (by show (0 : Nat) ≠ 38; decide) (fun _ => by show (0 : Nat) ≠ 124; decide))
          exact hq _ v1_ (by rw [v2_, e_]; exact v0_)
theorem c_Re_joinWaiting {d : Nat} {J : Nat → Nat → Int32} {R : Nat → Nat → Option Nat} {L : Nat → Nat → Int64} {sh : Nat → Nat × Nat} {N : Nat} (hS : ShOK sh) (hR : RfOK R) (hT0 : R 731 0 = some 730) {T : Nat → Int32} {n p : Nat} {due : Bool} {ob : Nat} {ns : List Nd} {W Lo : List Nat} (hr : RS T n p due ob ns W Lo J) (hn : n ≤ 250) (hp : p ≤ n) {e : Bool} (hd : 1 ≤ d) (h1 : okW W) (h2 : Lo.length = bns W + 1) (h3 : ns.length + nob W ≤ p) (h4 : W.length ≤ 250) (h5 : 1 ≤ ns.length) : Mt mi_Re_joinWaiting d 0 0 [.ref 731, .int (bI (e = true))] (J, R, L, sh, N) (fun x h2 => x = none ∧ ∃ K, h2 = (K, R, L, sh, N) ∧ FrV J K ∧ RS T n p due ob (jn ns W Lo e).1 (jn ns W Lo e).2.1 (jn ns W Lo e).2.2 K) := by
  refine Mt.of pn_Re (Nat.le_of_ble_eq_true rfl) ?_
  show Run mi_Re_joinWaiting d 0 0 0 [(0, .ref 731), (1, .int (bI (e = true)))] [] (J, R, L, sh, N) _
  exact l_Re_joinWaiting hS hR hT0 hn hp (fun K a b => ⟨rfl, K, rfl, a, b⟩) hd _ ns W Lo J rfl hr FrV.rf rfl h1 h2 h3 h4 h5
