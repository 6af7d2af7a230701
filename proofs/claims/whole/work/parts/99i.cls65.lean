/-! THE REFERENCE: keys of a condition -/
theorem len_k {k0 : Nat} {ns : List Nd} {x : Nd} : k0 + (ns ++ [x]).length = k0 + ns.length + 1 := by rw [len_sg]; rfl
theorem gC_0 {nk k : Nat} (h : k ≤ nk) : gC nk k = 0 ∧ gZ nk k = 0 ∧ gN nk k = nk := ⟨if_neg (by omega), if_neg (by omega), if_neg (by omega)⟩
theorem gC_t {nk k1 k2 : Nat} (h1 : k1 ≤ k2) (h2 : k2 ≤ 2 * (nk + 1)) : gC nk k1 + gC (gN nk k1) k2 = gC nk k2 ∧ gZ nk k1 + gZ (gN nk k1) k2 = gZ nk k2 ∧ gN (gN nk k1) k2 = gN nk k2 := by
  unfold gC gZ gN
  by_cases a : nk < k1
  · have b : nk < k2 := by omega
    have c : ¬ 2 * (nk + 1) < k2 := by omega
    refine ⟨?_, ?_, ?_⟩ <;> simp only [if_pos a, if_pos b, if_neg c, Nat.add_zero]
  · refine ⟨?_, ?_, ?_⟩ <;> simp only [if_neg a, Nat.zero_add]
theorem gN_l {nk k : Nat} : nk ≤ gN nk k := by unfold gN; by_cases a : nk < k <;> (first | rw [if_pos a] | rw [if_neg a]) <;> omega
/-- what the parser's methods leave -/
def PQ (B : HS) (A0 : A4) (k0 n : Nat) (T : Nat → Int32) (nk : Nat) (r : Option Nat × Nat × List Nd) (x : Option Value) (h2 : HS) : Prop :=
  (match r.1 with | none => x = some (.int (-1)) | some t => x = some (.int (nI (k0 + t)))) ∧ ∃ A2, MS B A0 k0 n T r.2.1 (gN nk (k0 + r.2.2.length)) r.2.2 A2 h2
theorem c_M_newPart {d : Nat} {B : HS} {A0 A : A4} {k0 n p nk : Nat} {T : Nat → Int32} {ns : List Nd} {I : Nat → Nat → Int32} {R : Nat → Nat → Option Nat} {L : Nat → Nat → Int64} {sh : Nat → Nat × Nat} {N : Nat} (hm : MS B A0 k0 n T p nk ns A (I, R, L, sh, N)) (hn : n ≤ 250) (hp : p ≤ n) (hk0 : k0 ≤ 1000) (hlen : ns.length ≤ 250) {k a b s : Nat} {f c g : Int32} (hf : (k = 3 ∨ 7 ≤ k) → f = nI (k0 + a)) (hc : 7 ≤ k → c = nI (k0 + b)) (h56 : k = 5 ∨ k = 6 → f = nI a ∧ c = nI b) (hsg : k = 5 → g = nI s) (h4 : k = 4 → f = nI 0) (hd : 2 ≤ d) : Mt mi_M_newPart d (gC nk (k0 + ns.length + 1)) (gZ nk (k0 + ns.length + 1)) [.ref 761, .int (nI k), .int f, .int c, .int g] (I, R, L, sh, N) (fun x h2 => x = some (.int (nI (k0 + ns.length))) ∧ ∃ A2 h, h2 = h ∧ MS B A0 k0 n T p (gN nk (k0 + ns.length + 1)) (ns ++ [(k, a, b, s)]) A2 h) := by
  by_cases q : nk < k0 + ns.length + 1
  · have e : nk = k0 + ns.length := by have := hm.2.2.2.1.1; omega
    have := c_M_newPart_1 hm hn hp hk0 hlen hf hc h56 hsg h4 q hd
    unfold gC gZ gN
    rw [if_pos q, if_pos q, if_pos q, e]
    exact this
  · have := c_M_newPart_0 hm hn hp hk0 hlen hf hc h56 hsg h4 (by omega) hd
    unfold gC gZ gN
    rw [if_neg q, if_neg q, if_neg q]
    exact this
/-- what an operand gives -/
def opR (T : Nat → Int32) (n p : Nat) (ns : List Nd) : Option Nat × Nat × List Nd := match opd T n p with
  | .inl q => (none, q, ns)
  | .inr (q, x) => (some ns.length, q, ns ++ [x])
theorem opR_l {T : Nat → Int32} {n p q : Nat} {ns : List Nd} (h : opd T n p = .inl q) : opR T n p ns = (none, q, ns) := by unfold opR; rw [h]
theorem opR_r {T : Nat → Int32} {n p q : Nat} {x : Nd} {ns : List Nd} (h : opd T n p = .inr (q, x)) : opR T n p ns = (some ns.length, q, ns ++ [x]) := by unfold opR; rw [h]
theorem c_M_keys {d : Nat} {B : HS} {A0 A : A4} {k0 n p nk : Nat} {T : Nat → Int32} {ns : List Nd} {I : Nat → Nat → Int32} {R : Nat → Nat → Option Nat} {L : Nat → Nat → Int64} {sh : Nat → Nat × Nat} {N : Nat} (hm : MS B A0 k0 n T p nk ns A (I, R, L, sh, N)) (hn : n ≤ 250) (hp : p ≤ n) (hk0 : k0 ≤ 1000) (hl : ns.length ≤ p) (hcap : k0 + n ≤ 2 * (nk + 1)) (ha : byt T n p = 35) (hd : 4 ≤ d) : Mt mi_M_keys d (gC nk (k0 + (opR T n p ns).2.2.length)) (gZ nk (k0 + (opR T n p ns).2.2.length)) [.ref 761] (I, R, L, sh, N) (PQ B A0 k0 n T nk (opR T n p ns)) := by
  obtain ⟨-, -, -, -, -, -, -, -, hS, hR, -⟩ := id hm
  dsimp only at hS hR
  have hl0 : p < n := byt_lt (T := T) (by omega)
  refine Mt.of pn_M (Nat.le_of_ble_eq_true rfl) ?_
  show Run mi_M_keys d _ _ 0 [(0, .ref 761)] [] (I, R, L, sh, N) _
  refine r_aload_n (x := some 761) (pc2 := 1) d_M_keys_0 rfl rfl ?_
  refine r_dup (pc2 := 2) d_M_keys_1 rfl rfl ?_
  refine q_getI (x := nI p) (pc2 := 5) d_M_keys_2 rfl k_M_112 (by decide) (sh_761 hS) hm.1.2.1 ?_
  refine r_iconst (v := nI 1) (pc2 := 6) d_M_keys_5 rfl (by decide) ?_
  refine q_iaddN (pc2 := 7) d_M_keys_6 rfl ?_
  refine q_putI (pc2 := 10) d_M_keys_7 rfl k_M_112 (Or.inl rfl) (sh_761 hS) (Or.inl rfl) (fun I1 hI1 => ?_)
  have hm2 := MS.fd (q := p + 1) hm (Or.inl ⟨rfl, rfl⟩) hI1
  refine r_aload_n (x := some 761) (pc2 := 11) d_M_keys_10 rfl rfl ?_
  refine r_bipush (v := nI 6) (pc2 := 13) d_M_keys_11 rfl (by decide) ?_
  refine r_iconst (v := nI 0) (pc2 := 14) d_M_keys_13 rfl (by decide) ?_
  refine r_ldc (pc2 := 16) d_M_keys_14 rfl k_M_153 ?_
  refine q_top (y := nI 999999) (by decide) ?_
  refine r_callv (M2 := mi_M_isNumber) (pc2 := 19) d_M_keys_16 rfl k_M_149 cm_M_isNumber cv_M_isNumber (sh_761 hS) (by decide) rfl rfl rfl (Nat.le_of_ble_eq_true rfl) (c_M_isNumber hm2 hn (by omega) hk0 (m := 6) (lo := 0) (hi := 999999) (by omega) (by omega) (by omega) (by omega)) (d2 := d - 1) (by omega) (Nat.le_of_eq (Nat.zero_add _)) (Nat.le_of_eq (Nat.zero_add _)) (fun r2 h2 hq2 => ?_)
  obtain ⟨Iq3, rfl, hzq3, hxq3⟩ := hq2
  cases hoq3 : nmb T n 6 (p + 1) 0 999999 with
  | none =>
    rw [hoq3] at hxq3
    obtain ⟨rfl, hmq3⟩ := hxq3
    refine q_if_ne (tgt := 24) (A := (0 : Int)) (pc2 := 22) d_M_keys_19 rfl rfl (nI_toInt (by omega)) (fun c4 => ?_) (fun c4 => ?_)
    · exfalso; omega
    rw [opR_l (show opd T n p = Sum.inl (p + 1) from by rw [opd_k ha, hoq3]; (try rfl))]
    refine r_iconst (v := (-1 : Int32)) (pc2 := 23) d_M_keys_22 rfl (by decide) ?_
    refine Run.ret (some (.int ((-1 : Int32)))) d_M_keys_23 ⟨_, rfl⟩ ?_
    exact ⟨rfl, _, by rw [(gC_0 hm.2.2.2.1.1).2.2]; exact hmq3⟩
  | some rq3 =>
    obtain ⟨eq3, vq3⟩ := rq3
    rw [hoq3] at hxq3
    obtain ⟨rfl, hmq3, hvq3⟩ := hxq3
    have hnbq3 := nmb_p (by omega) hoq3
    refine q_if_ne (tgt := 24) (A := (1 : Int)) (pc2 := 22) d_M_keys_19 rfl rfl (nI_toInt (by omega)) (fun c5 => ?_) (fun c5 => ?_)
    rotate_left
    · exfalso; omega
    refine r_aload_n (x := some 761) (pc2 := 25) d_M_keys_24 rfl rfl ?_
    refine q_getI (x := nI vq3) (pc2 := 28) d_M_keys_25 rfl k_M_122 (by decide) (sh_761 hS) hvq3 ?_
    refine r_istore_n (pc2 := 29) d_M_keys_28 rfl rfl (Nat.le_of_ble_eq_true rfl) ?_
    refine r_aload_n (x := some 761) (pc2 := 30) d_M_keys_29 rfl rfl ?_
    refine r_bipush (v := nI 45) (pc2 := 32) d_M_keys_30 rfl (by decide) ?_
    by_cases hsg : byt T n eq3 = ((45 : Nat) : Int)
    · skip
      have hl1 := byt_lt (T := T) (n := n) (p := eq3) (by omega)
      refine r_callv (M2 := mi_M_isSign) (pc2 := 35) d_M_keys_32 rfl k_M_139 cm_M_isSign cv_M_isSign (sh_761 hS) (by decide) rfl rfl rfl (Nat.le_of_ble_eq_true rfl) (c_M_isSign_y hmq3 hn (by omega) hk0 (c := 45) (by omega) hsg (by omega)) (d2 := d - 1) (by omega) (Nat.le_of_eq (Nat.zero_add _)) (Nat.le_of_eq (Nat.zero_add _)) (fun r2 h2 hq2 => ?_)
      obtain ⟨rfl, Iq6, rfl, hzq6, hmq6⟩ := hq2
      refine q_if_eq (tgt := 50) (A := (1 : Int)) (pc2 := 38) d_M_keys_35 rfl rfl (nI_toInt (by omega)) (fun c7 => ?_) (fun c7 => ?_)
      · exfalso; omega
      refine r_aload_n (x := some 761) (pc2 := 39) d_M_keys_38 rfl rfl ?_
      refine r_bipush (v := nI 6) (pc2 := 41) d_M_keys_39 rfl (by decide) ?_
      refine r_iload_n (pc2 := 42) d_M_keys_41 rfl rfl ?_
      refine r_ldc (pc2 := 44) d_M_keys_42 rfl k_M_153 ?_
      refine q_top (y := nI 999999) (by decide) ?_
      refine r_callv (M2 := mi_M_isNumber) (pc2 := 47) d_M_keys_44 rfl k_M_149 cm_M_isNumber cv_M_isNumber (sh_761 hS) (by decide) rfl rfl rfl (Nat.le_of_ble_eq_true rfl) (c_M_isNumber hmq6 hn (by omega) hk0 (m := 6) (lo := vq3) (hi := 999999) (by omega) (by omega) (by omega) (by omega)) (d2 := d - 1) (by omega) (Nat.le_of_eq (Nat.zero_add _)) (Nat.le_of_eq (Nat.zero_add _)) (fun r2 h2 hq2 => ?_)
      obtain ⟨Iq8, rfl, hzq8, hxq8⟩ := hq2
      cases hoq8 : nmb T n 6 (eq3 + 1) vq3 999999 with
      | none =>
        rw [hoq8] at hxq8
        obtain ⟨rfl, hmq8⟩ := hxq8
        refine q_if_ne (tgt := 52) (A := (0 : Int)) (pc2 := 50) d_M_keys_47 rfl rfl (nI_toInt (by omega)) (fun c9 => ?_) (fun c9 => ?_)
        · exfalso; omega
        rw [opR_l (show opd T n p = Sum.inl (eq3 + 1) from by rw [opd_k ha, hoq3]; dsimp only; rw [if_pos (by omega), hoq8]; (try rfl))]
        refine r_iconst (v := (-1 : Int32)) (pc2 := 51) d_M_keys_50 rfl (by decide) ?_
        refine Run.ret (some (.int ((-1 : Int32)))) d_M_keys_51 ⟨_, rfl⟩ ?_
        exact ⟨rfl, _, by rw [(gC_0 hm.2.2.2.1.1).2.2]; exact hmq8⟩
      | some rq8 =>
        obtain ⟨eq8, vq8⟩ := rq8
        rw [hoq8] at hxq8
        obtain ⟨rfl, hmq8, hvq8⟩ := hxq8
        have hnbq8 := nmb_p (by omega) hoq8
        refine q_if_ne (tgt := 52) (A := (1 : Int)) (pc2 := 50) d_M_keys_47 rfl rfl (nI_toInt (by omega)) (fun c10 => ?_) (fun c10 => ?_)
        rotate_left
        · exfalso; omega
        refine r_aload_n (x := some 761) (pc2 := 53) d_M_keys_52 rfl rfl ?_
        refine r_bipush (v := nI 6) (pc2 := 55) d_M_keys_53 rfl (by decide) ?_
        refine r_iload_n (pc2 := 56) d_M_keys_55 rfl rfl ?_
        refine r_aload_n (x := some 761) (pc2 := 57) d_M_keys_56 rfl rfl ?_
        refine q_getI (x := nI vq8) (pc2 := 60) d_M_keys_57 rfl k_M_122 (by decide) (sh_761 hS) hvq8 ?_
        refine r_iconst (v := nI 0) (pc2 := 61) d_M_keys_60 rfl (by decide) ?_
        rw [opR_r (show opd T n p = Sum.inr (eq8, (6, vq3, vq8, 0)) from by rw [opd_k ha, hoq3]; dsimp only; rw [if_pos (by omega), hoq8]; (try rfl)), len_k]
        refine r_callv (M2 := mi_M_newPart) (pc2 := 64) (as := [.int (nI 6), .int (nI vq3), .int (nI vq8), .int (nI 0)]) (rest := []) d_M_keys_61 rfl k_M_129 cm_M_newPart cv_M_newPart (sh_761 hS) (by decide) rfl rfl rfl (Nat.le_of_ble_eq_true rfl) (c_M_newPart hmq8 hn (by omega) hk0 (by omega) (k := 6) (a := vq3) (b := vq8) (s := 0) (fun h => by omega) (fun h => by omega) (fun _ => ⟨rfl, rfl⟩) (fun h => by omega) (fun h => by omega) (by omega)) (d2 := d - 1) (ac1 := 0) (az1 := 0) (by omega) (by omega) (by omega) (fun r2 h2 hq2 => ?_)
        obtain ⟨rfl, Aq, hq, hqe, hmq⟩ := hq2
        subst hqe
        obtain ⟨Iq11, Rq11, Lq11, Sq11, Nq11⟩ := h2
        have hmq11 := hmq
        have hS : ShOK Sq11 := hmq11.2.2.2.2.2.2.2.2.1
        have hR : RfOK Rq11 := hmq11.2.2.2.2.2.2.2.2.2.1
        refine Run.ret (some (.int (nI (k0 + ns.length)))) d_M_keys_64 ⟨_, rfl⟩ ?_
        exact ⟨rfl, _, by dsimp only; rw [len_k]; exact hmq11⟩
    · skip
      refine q_callv (M2 := mi_M_isSign) (pc2 := 35) d_M_keys_32 rfl k_M_139 cm_M_isSign cv_M_isSign (sh_761 hS) (by decide) rfl rfl rfl (Nat.le_of_ble_eq_true rfl) (c_M_isSign_n hmq3 hn (by omega) hk0 (c := 45) (by omega) hsg (by omega)) (d2 := d - 1) (by omega) (Nat.le_of_eq (Nat.zero_add _)) (Nat.le_of_eq (Nat.zero_add _)) ?_
      refine q_if_eq (tgt := 50) (A := (0 : Int)) (pc2 := 38) d_M_keys_35 rfl rfl (nI_toInt (by omega)) (fun c12 => ?_) (fun c12 => ?_)
      rotate_left
      · exfalso; omega
      rw [opR_l (show opd T n p = Sum.inl eq3 from by rw [opd_k ha, hoq3]; exact if_neg (by omega); (try rfl))]
      refine r_iconst (v := (-1 : Int32)) (pc2 := 51) d_M_keys_50 rfl (by decide) ?_
      refine Run.ret (some (.int ((-1 : Int32)))) d_M_keys_51 ⟨_, rfl⟩ ?_
      exact ⟨rfl, _, by rw [(gC_0 hm.2.2.2.1.1).2.2]; exact hmq3⟩
