/-! THE REFERENCE: simple -/
theorem rd0_33 {T : Nat → Int32} {n f p : Nat} {ns : List Nd} (h : byt T n p = 33) : rdP T n (f + 1) 0 0 p ns = (match rdP T n f 0 0 (p + 1) ns with
    | (none, q, m) => (none, q, m)
    | (some t, q, m) => (some m.length, q, m ++ [(3, t, 0, 0)])) := by
  rw [show rdP T n (f + 1) 0 0 p ns = _ from rdP.eq_2 ..]
  rw [if_pos rfl, if_pos h]
  rcases rdP T n f 0 0 (p + 1) ns with ⟨_ | t, q, m⟩ <;> rfl
theorem rd0_40 {T : Nat → Int32} {n f p : Nat} {ns : List Nd} (h : byt T n p = 40) : rdP T n (f + 1) 0 0 p ns = (match rdP T n f 3 0 (p + 1) ns with
    | (none, q, m) => (none, q, m)
    | (some t, q, m) => if byt T n q = 41 then (some t, q + 1, m) else (none, q, m)) := by
  rw [show rdP T n (f + 1) 0 0 p ns = _ from rdP.eq_2 ..]
  rw [if_pos rfl, if_neg (by omega), if_pos h]
  rcases rdP T n f 3 0 (p + 1) ns with ⟨_ | t, q, m⟩ <;> rfl
theorem rd0_o {T : Nat → Int32} {n f p : Nat} {ns : List Nd} (h : byt T n p ≠ 33) (h2 : byt T n p ≠ 40) : rdP T n (f + 1) 0 0 p ns = opR T n p ns := by
  rw [show rdP T n (f + 1) 0 0 p ns = _ from rdP.eq_2 ..]
  rw [if_pos rfl, if_neg h, if_neg h2]
  unfold opR
  cases opd T n p <;> rfl
theorem rd1 {T : Nat → Int32} {n f p : Nat} {ns : List Nd} : rdP T n (f + 1) 1 0 p ns = (match rdP T n f 0 0 p ns with
    | (none, q, m) => (none, q, m)
    | (some t, q, m) => rdP T n f 2 t q m) := by
  rw [show rdP T n (f + 1) 1 0 p ns = _ from rdP.eq_2 ..]
  rw [if_neg (by decide), if_pos rfl]
  rcases rdP T n f 0 0 p ns with ⟨_ | t, q, m⟩ <;> rfl
theorem rd3 {T : Nat → Int32} {n f p : Nat} {ns : List Nd} : rdP T n (f + 1) 3 0 p ns = (match rdP T n f 1 0 p ns with
    | (none, q, m) => (none, q, m)
    | (some t, q, m) => rdP T n f 4 t q m) := by
  rw [show rdP T n (f + 1) 3 0 p ns = _ from rdP.eq_2 ..]
  rw [if_neg (by decide), if_neg (by decide), if_neg (by decide), if_pos rfl]
  rcases rdP T n f 1 0 p ns with ⟨_ | t, q, m⟩ <;> rfl
theorem rd2_y {T : Nat → Int32} {n f p a : Nat} {ns : List Nd} (h : byt T n p = 38) : rdP T n (f + 1) 2 a p ns = (match rdP T n f 0 0 (p + 1) ns with
    | (none, q, m) => (none, q, m)
    | (some t, q, m) => rdP T n f 2 m.length q (m ++ [(7, a, t, 0)])) := by
  rw [show rdP T n (f + 1) 2 a p ns = _ from rdP.eq_2 ..]
  rw [if_neg (by decide), if_neg (by decide), if_pos rfl, if_pos h]
  rcases rdP T n f 0 0 (p + 1) ns with ⟨_ | t, q, m⟩ <;> rfl
theorem rd2_n {T : Nat → Int32} {n f p a : Nat} {ns : List Nd} (h : byt T n p ≠ 38) : rdP T n (f + 1) 2 a p ns = (some a, p, ns) := by rw [show rdP T n (f + 1) 2 a p ns = _ from rdP.eq_2 ..]; rw [if_neg (by decide), if_neg (by decide), if_pos rfl, if_neg h]
theorem rd4_y {T : Nat → Int32} {n f p a : Nat} {ns : List Nd} (h : byt T n p = 124) : rdP T n (f + 1) 4 a p ns = (match rdP T n f 1 0 (p + 1) ns with
    | (none, q, m) => (none, q, m)
    | (some t, q, m) => rdP T n f 4 m.length q (m ++ [(8, a, t, 0)])) := by
  rw [show rdP T n (f + 1) 4 a p ns = _ from rdP.eq_2 ..]
  rw [if_neg (by decide), if_neg (by decide), if_neg (by decide), if_neg (by decide), if_pos h]
  rcases rdP T n f 1 0 (p + 1) ns with ⟨_ | t, q, m⟩ <;> rfl
theorem rd4_n {T : Nat → Int32} {n f p a : Nat} {ns : List Nd} (h : byt T n p ≠ 124) : rdP T n (f + 1) 4 a p ns = (some a, p, ns) := by rw [show rdP T n (f + 1) 4 a p ns = _ from rdP.eq_2 ..]; rw [if_neg (by decide), if_neg (by decide), if_neg (by decide), if_neg (by decide), if_neg h]
/-- the parser's methods with fuel f -/
def PS (B : HS) (A0 : A4) (k0 n : Nat) (T : Nat → Int32) (f : Nat) : Prop := (∀ (d : Nat) (A : A4) (p nk : Nat) (ns : List Nd) (h : HS), MS B A0 k0 n T p nk ns A h → p ≤ n → NV ns → ns.length ≤ p → k0 + n ≤ 2 * (nk + 1) → 4 * (n - p) + 1 ≤ f → 3 * (n - p) + 6 ≤ d → Mt mi_M_simple d (gC nk (k0 + (rdP T n f 0 0 p ns).2.2.length)) (gZ nk (k0 + (rdP T n f 0 0 p ns).2.2.length)) [.ref 761] h (PQ B A0 k0 n T nk (rdP T n f 0 0 p ns))) ∧ (∀ (d : Nat) (A : A4) (p nk : Nat) (ns : List Nd) (h : HS), MS B A0 k0 n T p nk ns A h → p ≤ n → NV ns → ns.length ≤ p → k0 + n ≤ 2 * (nk + 1) → 4 * (n - p) + 3 ≤ f → 3 * (n - p) + 7 ≤ d → Mt mi_M_boths d (gC nk (k0 + (rdP T n f 1 0 p ns).2.2.length)) (gZ nk (k0 + (rdP T n f 1 0 p ns).2.2.length)) [.ref 761] h (PQ B A0 k0 n T nk (rdP T n f 1 0 p ns))) ∧ (∀ (d : Nat) (A : A4) (p nk : Nat) (ns : List Nd) (h : HS), MS B A0 k0 n T p nk ns A h → p ≤ n → NV ns → ns.length ≤ p → k0 + n ≤ 2 * (nk + 1) → 4 * (n - p) + 4 ≤ f → 3 * (n - p) + 8 ≤ d → Mt mi_M_cond d (gC nk (k0 + (rdP T n f 3 0 p ns).2.2.length)) (gZ nk (k0 + (rdP T n f 3 0 p ns).2.2.length)) [.ref 761] h (PQ B A0 k0 n T nk (rdP T n f 3 0 p ns))) ∧ (∀ (d : Nat) (A : A4) (p nk : Nat) (ns : List Nd) (h : HS) (a : Nat), MS B A0 k0 n T p nk ns A h → p ≤ n → NV ns → ns.length ≤ p → k0 + n ≤ 2 * (nk + 1) → 4 * (n - p) + 2 ≤ f → 3 * (n - p) + 7 ≤ d → a < ns.length → Run mi_M_boths d (gC nk (k0 + (rdP T n f 2 a p ns).2.2.length)) (gZ nk (k0 + (rdP T n f 2 a p ns).2.2.length)) 5 [(0, .ref 761), (1, .int (nI (k0 + a)))] [] h (PQ B A0 k0 n T nk (rdP T n f 2 a p ns))) ∧ (∀ (d : Nat) (A : A4) (p nk : Nat) (ns : List Nd) (h : HS) (a : Nat), MS B A0 k0 n T p nk ns A h → p ≤ n → NV ns → ns.length ≤ p → k0 + n ≤ 2 * (nk + 1) → 4 * (n - p) + 2 ≤ f → 3 * (n - p) + 8 ≤ d → a < ns.length → Run mi_M_cond d (gC nk (k0 + (rdP T n f 4 a p ns).2.2.length)) (gZ nk (k0 + (rdP T n f 4 a p ns).2.2.length)) 5 [(0, .ref 761), (1, .int (nI (k0 + a)))] [] h (PQ B A0 k0 n T nk (rdP T n f 4 a p ns)))
theorem PQ.g {B : HS} {A0 : A4} {k0 n nk k1 : Nat} {T : Nat → Int32} {r : Option Nat × Nat × List Nd} {x : Option Value} {h2 : HS} (e : gN (gN nk k1) (k0 + r.2.2.length) = gN nk (k0 + r.2.2.length)) (h : PQ B A0 k0 n T (gN nk k1) r x h2) : PQ B A0 k0 n T nk r x h2 := by
  obtain ⟨a, A2, b⟩ := h
  exact ⟨a, A2, by rw [← e]; exact b⟩
theorem s_M_simple {d : Nat} {B : HS} {A0 A : A4} {k0 n p nk f a : Nat} {T : Nat → Int32} {ns : List Nd} {I : Nat → Nat → Int32} {R : Nat → Nat → Option Nat} {L : Nat → Nat → Int64} {sh : Nat → Nat × Nat} {N : Nat} (ih : PS B A0 k0 n T f) (hm : MS B A0 k0 n T p nk ns A (I, R, L, sh, N)) (hn : n ≤ 250) (hp : p ≤ n) (hk0 : k0 ≤ 1000) (hl : ns.length ≤ p) (hcap : k0 + n ≤ 2 * (nk + 1)) (hv : NV ns) (hf : 4 * (n - p) + 1 ≤ f + 1) (hd : 3 * (n - p) + 6 ≤ d) : Mt mi_M_simple d (gC nk (k0 + (rdP T n (f + 1) 0 0 p ns).2.2.length)) (gZ nk (k0 + (rdP T n (f + 1) 0 0 p ns).2.2.length)) [.ref 761] (I, R, L, sh, N) (PQ B A0 k0 n T nk (rdP T n (f + 1) 0 0 p ns)) := by
  obtain ⟨-, -, -, -, -, -, -, -, hS, hR, -⟩ := id hm
  dsimp only at hS hR
  by_cases h33 : byt T n p = 33
  · skip
    rw [rd0_33 h33]
    have hl0 : p < n := byt_lt (T := T) (by omega)
    have hk := rdP_ok (T := T) (n := n) f 0 0 (p + 1) ns (by omega) hv (fun h => by omega)
    rcases hr : rdP T n f 0 0 (p + 1) ns with ⟨oo, q, m⟩
    rw [hr] at hk
    obtain ⟨hk1, hk2, hk3, hk4, hk5, hk6⟩ := hk
    dsimp only at hk1 hk2 hk3 hk4 hk5 hk6
    cases oo with
    | none =>
      dsimp only
      refine Mt.of pn_M (Nat.le_of_ble_eq_true rfl) ?_
      show Run mi_M_simple d _ _ 0 [(0, .ref 761)] [] (I, R, L, sh, N) _
      refine r_aload_n (x := some 761) (pc2 := 1) d_M_simple_0 rfl rfl ?_
      refine r_aload_n (x := some 761) (pc2 := 2) d_M_simple_1 rfl rfl ?_
      refine q_getI (x := nI p) (pc2 := 5) d_M_simple_2 rfl k_M_112 (by decide) (sh_761 hS) hm.1.2.1 ?_
      refine q_callv (M2 := mi_M_byteAt) (pc2 := 8) d_M_simple_5 rfl k_M_115 cm_M_byteAt cv_M_byteAt (sh_761 hS) (by decide) rfl rfl rfl (Nat.le_of_ble_eq_true rfl) (c_M_byteAt hm hn hk0 (q := p) (by omega)) (d2 := d - 1) (by omega) (Nat.le_of_eq (Nat.zero_add _)) (Nat.le_of_eq (Nat.zero_add _)) ?_
      refine r_istore_n (pc2 := 9) d_M_simple_8 rfl rfl (Nat.le_of_ble_eq_true rfl) ?_
      refine r_iload_n (pc2 := 10) d_M_simple_9 rfl rfl ?_
      refine r_bipush (v := nI 33) (pc2 := 12) d_M_simple_10 rfl (by decide) ?_
      refine q_icmp_ne (tgt := 47) (A := byt T n p) (B := (33 : Int)) (pc2 := 15) d_M_simple_12 rfl rfl (ltr_i) (nI_toInt (by omega)) (fun c1 => ?_) (fun c1 => ?_)
      · exfalso; omega
      · refine r_aload_n (x := some 761) (pc2 := 16) d_M_simple_15 rfl rfl ?_
        refine r_dup (pc2 := 17) d_M_simple_16 rfl rfl ?_
        refine q_getI (x := nI p) (pc2 := 20) d_M_simple_17 rfl k_M_112 (by decide) (sh_761 hS) hm.1.2.1 ?_
        refine r_iconst (v := nI 1) (pc2 := 21) d_M_simple_20 rfl (by decide) ?_
        refine q_iaddN (pc2 := 22) d_M_simple_21 rfl ?_
        refine q_putI (pc2 := 25) d_M_simple_22 rfl k_M_112 (Or.inl rfl) (sh_761 hS) (Or.inl rfl) (fun I2 hI2 => ?_)
        have hm3 := MS.fd (q := p + 1) hm (Or.inl ⟨rfl, rfl⟩) hI2
        refine r_aload_n (x := some 761) (pc2 := 26) d_M_simple_25 rfl rfl ?_
        have hcall := ih.1 (d - 1) _ _ _ _ _ hm3 (by omega) hv (by omega) (by omega) (by omega) (by omega)
        rw [hr] at hcall
        dsimp only at hcall
        refine r_callv (M2 := mi_M_simple) (pc2 := 29) (as := []) (rest := []) d_M_simple_26 rfl k_M_133 cm_M_simple cv_M_simple (sh_761 hS) (by decide) rfl rfl rfl (Nat.le_of_ble_eq_true rfl) (hcall) (d2 := d - 1) (ac1 := 0) (az1 := 0) (by omega) (by omega) (by omega) (fun r2 h2 hq2 => ?_)
        obtain ⟨hx, A2, hmq⟩ := hq2
        dsimp only at hx hmq
        subst hx
        obtain ⟨Iq4, Rq4, Lq4, Sq4, Nq4⟩ := h2
        have hmq4 := hmq
        have hS : ShOK Sq4 := hmq4.2.2.2.2.2.2.2.2.1
        have hR : RfOK Rq4 := hmq4.2.2.2.2.2.2.2.2.2.1
        refine r_istore_n (pc2 := 30) d_M_simple_29 rfl rfl (Nat.le_of_ble_eq_true rfl) ?_
        refine r_iload_n (pc2 := 31) d_M_simple_30 rfl rfl ?_
        refine q_if_ge (tgt := 38) (A := (-1 : Int)) (pc2 := 34) d_M_simple_31 rfl rfl (by decide) (fun c5 => ?_) (fun c5 => ?_)
        · exfalso; omega
        refine r_iconst (v := (-1 : Int32)) (pc2 := 35) d_M_simple_34 rfl (by decide) ?_
        refine r_goto (tgt := 46) d_M_simple_35 rfl ?_
        refine Run.ret (some (.int ((-1 : Int32)))) d_M_simple_46 ⟨_, rfl⟩ ?_
        exact ⟨rfl, _, hmq4⟩
    | some t =>
      dsimp only
      have hk7 := hk6 t rfl
      rw [len_k]
      have hg := gC_t (nk := nk) (k1 := k0 + m.length) (k2 := k0 + m.length + 1) (by omega) (by omega)
      refine Mt.of pn_M (Nat.le_of_ble_eq_true rfl) ?_
      show Run mi_M_simple d _ _ 0 [(0, .ref 761)] [] (I, R, L, sh, N) _
      refine r_aload_n (x := some 761) (pc2 := 1) d_M_simple_0 rfl rfl ?_
      refine r_aload_n (x := some 761) (pc2 := 2) d_M_simple_1 rfl rfl ?_
      refine q_getI (x := nI p) (pc2 := 5) d_M_simple_2 rfl k_M_112 (by decide) (sh_761 hS) hm.1.2.1 ?_
      refine q_callv (M2 := mi_M_byteAt) (pc2 := 8) d_M_simple_5 rfl k_M_115 cm_M_byteAt cv_M_byteAt (sh_761 hS) (by decide) rfl rfl rfl (Nat.le_of_ble_eq_true rfl) (c_M_byteAt hm hn hk0 (q := p) (by omega)) (d2 := d - 1) (by omega) (Nat.le_of_eq (Nat.zero_add _)) (Nat.le_of_eq (Nat.zero_add _)) ?_
      refine r_istore_n (pc2 := 9) d_M_simple_8 rfl rfl (Nat.le_of_ble_eq_true rfl) ?_
      refine r_iload_n (pc2 := 10) d_M_simple_9 rfl rfl ?_
      refine r_bipush (v := nI 33) (pc2 := 12) d_M_simple_10 rfl (by decide) ?_
      refine q_icmp_ne (tgt := 47) (A := byt T n p) (B := (33 : Int)) (pc2 := 15) d_M_simple_12 rfl rfl (ltr_i) (nI_toInt (by omega)) (fun c6 => ?_) (fun c6 => ?_)
      · exfalso; omega
      · refine r_aload_n (x := some 761) (pc2 := 16) d_M_simple_15 rfl rfl ?_
        refine r_dup (pc2 := 17) d_M_simple_16 rfl rfl ?_
        refine q_getI (x := nI p) (pc2 := 20) d_M_simple_17 rfl k_M_112 (by decide) (sh_761 hS) hm.1.2.1 ?_
        refine r_iconst (v := nI 1) (pc2 := 21) d_M_simple_20 rfl (by decide) ?_
        refine q_iaddN (pc2 := 22) d_M_simple_21 rfl ?_
        refine q_putI (pc2 := 25) d_M_simple_22 rfl k_M_112 (Or.inl rfl) (sh_761 hS) (Or.inl rfl) (fun I7 hI7 => ?_)
        have hm8 := MS.fd (q := p + 1) hm (Or.inl ⟨rfl, rfl⟩) hI7
        refine r_aload_n (x := some 761) (pc2 := 26) d_M_simple_25 rfl rfl ?_
        have hcall := ih.1 (d - 1) _ _ _ _ _ hm8 (by omega) hv (by omega) (by omega) (by omega) (by omega)
        rw [hr] at hcall
        dsimp only at hcall
        refine r_callv (M2 := mi_M_simple) (pc2 := 29) (as := []) (rest := []) d_M_simple_26 rfl k_M_133 cm_M_simple cv_M_simple (sh_761 hS) (by decide) rfl rfl rfl (Nat.le_of_ble_eq_true rfl) (hcall) (d2 := d - 1) (ac1 := gC (gN nk (k0 + m.length)) (k0 + m.length + 1)) (az1 := gZ (gN nk (k0 + m.length)) (k0 + m.length + 1)) (by omega) (by omega) (by omega) (fun r2 h2 hq2 => ?_)
        obtain ⟨hx, A2, hmq⟩ := hq2
        dsimp only at hx hmq
        subst hx
        obtain ⟨Iq9, Rq9, Lq9, Sq9, Nq9⟩ := h2
        have hmq9 := hmq
        have hS : ShOK Sq9 := hmq9.2.2.2.2.2.2.2.2.1
        have hR : RfOK Rq9 := hmq9.2.2.2.2.2.2.2.2.2.1
        refine r_istore_n (pc2 := 30) d_M_simple_29 rfl rfl (Nat.le_of_ble_eq_true rfl) ?_
        refine r_iload_n (pc2 := 31) d_M_simple_30 rfl rfl ?_
        refine q_if_ge (tgt := 38) (A := ((k0 + t : Nat) : Int)) (pc2 := 34) d_M_simple_31 rfl rfl (nI_toInt (by omega)) (fun c10 => ?_) (fun c10 => ?_)
        rotate_left
        · exfalso; omega
        refine r_aload_n (x := some 761) (pc2 := 39) d_M_simple_38 rfl rfl ?_
        refine r_iconst (v := nI 3) (pc2 := 40) d_M_simple_39 rfl (by decide) ?_
        refine r_iload_n (pc2 := 41) d_M_simple_40 rfl rfl ?_
        refine r_iconst (v := nI 0) (pc2 := 42) d_M_simple_41 rfl (by decide) ?_
        refine r_iconst (v := nI 0) (pc2 := 43) d_M_simple_42 rfl (by decide) ?_
        refine r_callv (M2 := mi_M_newPart) (pc2 := 46) (as := [.int (nI 3), .int (nI (k0 + t)), .int (nI 0), .int (nI 0)]) (rest := []) d_M_simple_43 rfl k_M_129 cm_M_newPart cv_M_newPart (sh_761 hS) (by decide) rfl rfl rfl (Nat.le_of_ble_eq_true rfl) (c_M_newPart hmq9 hn (by omega) hk0 (by omega) (k := 3) (a := t) (b := 0) (s := 0) (fun _ => rfl) (fun h => by omega) (fun h => by omega) (fun h => by omega) (fun h => by omega) (by omega)) (d2 := d - 1) (ac1 := 0) (az1 := 0) (by omega) (by omega) (by omega) (fun r2 h2 hq2 => ?_)
        obtain ⟨rfl, Aq, hq, hqe, hmq⟩ := hq2
        subst hqe
        obtain ⟨Iq11, Rq11, Lq11, Sq11, Nq11⟩ := h2
        have hmq11 := hmq
        have hS : ShOK Sq11 := hmq11.2.2.2.2.2.2.2.2.1
        have hR : RfOK Rq11 := hmq11.2.2.2.2.2.2.2.2.2.1
        refine Run.ret (some (.int (nI (k0 + m.length)))) d_M_simple_46 ⟨_, rfl⟩ ?_
        exact ⟨rfl, _, by dsimp only; rw [len_k, ← hg.2.2]; exact hmq11⟩
  by_cases h40 : byt T n p = 40
  · skip
    rw [rd0_40 h40]
    have hl0 : p < n := byt_lt (T := T) (by omega)
    have hk := rdP_ok (T := T) (n := n) f 3 0 (p + 1) ns (by omega) hv (fun h => by omega)
    rcases hr : rdP T n f 3 0 (p + 1) ns with ⟨oo, q, m⟩
    rw [hr] at hk
    obtain ⟨hk1, hk2, hk3, hk4, hk5, hk6⟩ := hk
    dsimp only at hk1 hk2 hk3 hk4 hk5 hk6
    cases oo with
    | none =>
      dsimp only
      refine Mt.of pn_M (Nat.le_of_ble_eq_true rfl) ?_
      show Run mi_M_simple d _ _ 0 [(0, .ref 761)] [] (I, R, L, sh, N) _
      refine r_aload_n (x := some 761) (pc2 := 1) d_M_simple_0 rfl rfl ?_
      refine r_aload_n (x := some 761) (pc2 := 2) d_M_simple_1 rfl rfl ?_
      refine q_getI (x := nI p) (pc2 := 5) d_M_simple_2 rfl k_M_112 (by decide) (sh_761 hS) hm.1.2.1 ?_
      refine q_callv (M2 := mi_M_byteAt) (pc2 := 8) d_M_simple_5 rfl k_M_115 cm_M_byteAt cv_M_byteAt (sh_761 hS) (by decide) rfl rfl rfl (Nat.le_of_ble_eq_true rfl) (c_M_byteAt hm hn hk0 (q := p) (by omega)) (d2 := d - 1) (by omega) (Nat.le_of_eq (Nat.zero_add _)) (Nat.le_of_eq (Nat.zero_add _)) ?_
      refine r_istore_n (pc2 := 9) d_M_simple_8 rfl rfl (Nat.le_of_ble_eq_true rfl) ?_
      refine r_iload_n (pc2 := 10) d_M_simple_9 rfl rfl ?_
      refine r_bipush (v := nI 33) (pc2 := 12) d_M_simple_10 rfl (by decide) ?_
      refine q_icmp_ne (tgt := 47) (A := byt T n p) (B := (33 : Int)) (pc2 := 15) d_M_simple_12 rfl rfl (ltr_i) (nI_toInt (by omega)) (fun c12 => ?_) (fun c12 => ?_)
      · refine r_iload_n (pc2 := 48) d_M_simple_47 rfl rfl ?_
        refine r_bipush (v := nI 40) (pc2 := 50) d_M_simple_48 rfl (by decide) ?_
        refine q_icmp_ne (tgt := 87) (A := byt T n p) (B := (40 : Int)) (pc2 := 53) d_M_simple_50 rfl rfl (ltr_i) (nI_toInt (by omega)) (fun c13 => ?_) (fun c13 => ?_)
        · exfalso; omega
        · refine r_aload_n (x := some 761) (pc2 := 54) d_M_simple_53 rfl rfl ?_
          refine r_dup (pc2 := 55) d_M_simple_54 rfl rfl ?_
          refine q_getI (x := nI p) (pc2 := 58) d_M_simple_55 rfl k_M_112 (by decide) (sh_761 hS) hm.1.2.1 ?_
          refine r_iconst (v := nI 1) (pc2 := 59) d_M_simple_58 rfl (by decide) ?_
          refine q_iaddN (pc2 := 60) d_M_simple_59 rfl ?_
          refine q_putI (pc2 := 63) d_M_simple_60 rfl k_M_112 (Or.inl rfl) (sh_761 hS) (Or.inl rfl) (fun I14 hI14 => ?_)
          have hm15 := MS.fd (q := p + 1) hm (Or.inl ⟨rfl, rfl⟩) hI14
          refine r_aload_n (x := some 761) (pc2 := 64) d_M_simple_63 rfl rfl ?_
          have hcall := ih.2.2.1 (d - 1) _ _ _ _ _ hm15 (by omega) hv (by omega) (by omega) (by omega) (by omega)
          rw [hr] at hcall
          dsimp only at hcall
          refine r_callv (M2 := mi_M_cond) (pc2 := 67) (as := []) (rest := []) d_M_simple_64 rfl k_M_136 cm_M_cond cv_M_cond (sh_761 hS) (by decide) rfl rfl rfl (Nat.le_of_ble_eq_true rfl) (hcall) (d2 := d - 1) (ac1 := 0) (az1 := 0) (by omega) (by omega) (by omega) (fun r2 h2 hq2 => ?_)
          obtain ⟨hx, A2, hmq⟩ := hq2
          dsimp only at hx hmq
          subst hx
          obtain ⟨Iq16, Rq16, Lq16, Sq16, Nq16⟩ := h2
          have hmq16 := hmq
          have hS : ShOK Sq16 := hmq16.2.2.2.2.2.2.2.2.1
          have hR : RfOK Rq16 := hmq16.2.2.2.2.2.2.2.2.2.1
          refine r_istore_n (pc2 := 68) d_M_simple_67 rfl rfl (Nat.le_of_ble_eq_true rfl) ?_
          refine r_iload_n (pc2 := 69) d_M_simple_68 rfl rfl ?_
          refine q_if_lt (tgt := 85) (A := (-1 : Int)) (pc2 := 72) d_M_simple_69 rfl rfl (by decide) (fun c17 => ?_) (fun c17 => ?_)
          rotate_left
          · exfalso; omega
          refine r_iconst (v := (-1 : Int32)) (pc2 := 86) d_M_simple_85 rfl (by decide) ?_
          refine Run.ret (some (.int ((-1 : Int32)))) d_M_simple_86 ⟨_, rfl⟩ ?_
          exact ⟨rfl, _, hmq16⟩
      · exfalso; omega
    | some t =>
      have hk7 := hk6 t rfl
      dsimp only
      by_cases hsg : byt T n q = ((41 : Nat) : Int)
      · skip
        have hl3 : q < n := byt_lt (T := T) (by omega)
        rw [if_pos (show byt T n q = 41 from hsg)]
        dsimp only
        refine Mt.of pn_M (Nat.le_of_ble_eq_true rfl) ?_
        show Run mi_M_simple d _ _ 0 [(0, .ref 761)] [] (I, R, L, sh, N) _
        refine r_aload_n (x := some 761) (pc2 := 1) d_M_simple_0 rfl rfl ?_
        refine r_aload_n (x := some 761) (pc2 := 2) d_M_simple_1 rfl rfl ?_
        refine q_getI (x := nI p) (pc2 := 5) d_M_simple_2 rfl k_M_112 (by decide) (sh_761 hS) hm.1.2.1 ?_
        refine q_callv (M2 := mi_M_byteAt) (pc2 := 8) d_M_simple_5 rfl k_M_115 cm_M_byteAt cv_M_byteAt (sh_761 hS) (by decide) rfl rfl rfl (Nat.le_of_ble_eq_true rfl) (c_M_byteAt hm hn hk0 (q := p) (by omega)) (d2 := d - 1) (by omega) (Nat.le_of_eq (Nat.zero_add _)) (Nat.le_of_eq (Nat.zero_add _)) ?_
        refine r_istore_n (pc2 := 9) d_M_simple_8 rfl rfl (Nat.le_of_ble_eq_true rfl) ?_
        refine r_iload_n (pc2 := 10) d_M_simple_9 rfl rfl ?_
        refine r_bipush (v := nI 33) (pc2 := 12) d_M_simple_10 rfl (by decide) ?_
        refine q_icmp_ne (tgt := 47) (A := byt T n p) (B := (33 : Int)) (pc2 := 15) d_M_simple_12 rfl rfl (ltr_i) (nI_toInt (by omega)) (fun c18 => ?_) (fun c18 => ?_)
        · refine r_iload_n (pc2 := 48) d_M_simple_47 rfl rfl ?_
          refine r_bipush (v := nI 40) (pc2 := 50) d_M_simple_48 rfl (by decide) ?_
          refine q_icmp_ne (tgt := 87) (A := byt T n p) (B := (40 : Int)) (pc2 := 53) d_M_simple_50 rfl rfl (ltr_i) (nI_toInt (by omega)) (fun c19 => ?_) (fun c19 => ?_)
          · exfalso; omega
          · refine r_aload_n (x := some 761) (pc2 := 54) d_M_simple_53 rfl rfl ?_
            refine r_dup (pc2 := 55) d_M_simple_54 rfl rfl ?_
            refine q_getI (x := nI p) (pc2 := 58) d_M_simple_55 rfl k_M_112 (by decide) (sh_761 hS) hm.1.2.1 ?_
            refine r_iconst (v := nI 1) (pc2 := 59) d_M_simple_58 rfl (by decide) ?_
            refine q_iaddN (pc2 := 60) d_M_simple_59 rfl ?_
            refine q_putI (pc2 := 63) d_M_simple_60 rfl k_M_112 (Or.inl rfl) (sh_761 hS) (Or.inl rfl) (fun I20 hI20 => ?_)
            have hm21 := MS.fd (q := p + 1) hm (Or.inl ⟨rfl, rfl⟩) hI20
            refine r_aload_n (x := some 761) (pc2 := 64) d_M_simple_63 rfl rfl ?_
            have hcall := ih.2.2.1 (d - 1) _ _ _ _ _ hm21 (by omega) hv (by omega) (by omega) (by omega) (by omega)
            rw [hr] at hcall
            dsimp only at hcall
            refine r_callv (M2 := mi_M_cond) (pc2 := 67) (as := []) (rest := []) d_M_simple_64 rfl k_M_136 cm_M_cond cv_M_cond (sh_761 hS) (by decide) rfl rfl rfl (Nat.le_of_ble_eq_true rfl) (hcall) (d2 := d - 1) (ac1 := 0) (az1 := 0) (by omega) (by omega) (by omega) (fun r2 h2 hq2 => ?_)
            obtain ⟨hx, A2, hmq⟩ := hq2
            dsimp only at hx hmq
            subst hx
            obtain ⟨Iq22, Rq22, Lq22, Sq22, Nq22⟩ := h2
            have hmq22 := hmq
            have hS : ShOK Sq22 := hmq22.2.2.2.2.2.2.2.2.1
            have hR : RfOK Rq22 := hmq22.2.2.2.2.2.2.2.2.2.1
            refine r_istore_n (pc2 := 68) d_M_simple_67 rfl rfl (Nat.le_of_ble_eq_true rfl) ?_
            refine r_iload_n (pc2 := 69) d_M_simple_68 rfl rfl ?_
            refine q_if_lt (tgt := 85) (A := ((k0 + t : Nat) : Int)) (pc2 := 72) d_M_simple_69 rfl rfl (nI_toInt (by omega)) (fun c23 => ?_) (fun c23 => ?_)
            · exfalso; omega
            refine r_aload_n (x := some 761) (pc2 := 73) d_M_simple_72 rfl rfl ?_
            refine r_bipush (v := nI 41) (pc2 := 75) d_M_simple_73 rfl (by decide) ?_
            refine r_callv (M2 := mi_M_isSign) (pc2 := 78) d_M_simple_75 rfl k_M_139 cm_M_isSign cv_M_isSign (sh_761 hS) (by decide) rfl rfl rfl (Nat.le_of_ble_eq_true rfl) (c_M_isSign_y hmq22 hn (by omega) hk0 (c := 41) (by omega) hsg (by omega)) (d2 := d - 1) (by omega) (Nat.le_of_eq (Nat.zero_add _)) (Nat.le_of_eq (Nat.zero_add _)) (fun r2 h2 hq2 => ?_)
            obtain ⟨rfl, Iq24, rfl, hzq24, hmq24⟩ := hq2
            refine q_if_eq (tgt := 85) (A := (1 : Int)) (pc2 := 81) d_M_simple_78 rfl rfl (nI_toInt (by omega)) (fun c25 => ?_) (fun c25 => ?_)
            · exfalso; omega
            refine r_iload_n (pc2 := 82) d_M_simple_81 rfl rfl ?_
            refine r_goto (tgt := 86) d_M_simple_82 rfl ?_
            refine Run.ret (some (.int (nI (k0 + t)))) d_M_simple_86 ⟨_, rfl⟩ ?_
            exact ⟨rfl, _, hmq24⟩
        · exfalso; omega
      · skip
        rw [if_neg (show ¬ byt T n q = 41 from hsg)]
        dsimp only
        refine Mt.of pn_M (Nat.le_of_ble_eq_true rfl) ?_
        show Run mi_M_simple d _ _ 0 [(0, .ref 761)] [] (I, R, L, sh, N) _
        refine r_aload_n (x := some 761) (pc2 := 1) d_M_simple_0 rfl rfl ?_
        refine r_aload_n (x := some 761) (pc2 := 2) d_M_simple_1 rfl rfl ?_
        refine q_getI (x := nI p) (pc2 := 5) d_M_simple_2 rfl k_M_112 (by decide) (sh_761 hS) hm.1.2.1 ?_
        refine q_callv (M2 := mi_M_byteAt) (pc2 := 8) d_M_simple_5 rfl k_M_115 cm_M_byteAt cv_M_byteAt (sh_761 hS) (by decide) rfl rfl rfl (Nat.le_of_ble_eq_true rfl) (c_M_byteAt hm hn hk0 (q := p) (by omega)) (d2 := d - 1) (by omega) (Nat.le_of_eq (Nat.zero_add _)) (Nat.le_of_eq (Nat.zero_add _)) ?_
        refine r_istore_n (pc2 := 9) d_M_simple_8 rfl rfl (Nat.le_of_ble_eq_true rfl) ?_
        refine r_iload_n (pc2 := 10) d_M_simple_9 rfl rfl ?_
        refine r_bipush (v := nI 33) (pc2 := 12) d_M_simple_10 rfl (by decide) ?_
        refine q_icmp_ne (tgt := 47) (A := byt T n p) (B := (33 : Int)) (pc2 := 15) d_M_simple_12 rfl rfl (ltr_i) (nI_toInt (by omega)) (fun c26 => ?_) (fun c26 => ?_)
        · refine r_iload_n (pc2 := 48) d_M_simple_47 rfl rfl ?_
          refine r_bipush (v := nI 40) (pc2 := 50) d_M_simple_48 rfl (by decide) ?_
          refine q_icmp_ne (tgt := 87) (A := byt T n p) (B := (40 : Int)) (pc2 := 53) d_M_simple_50 rfl rfl (ltr_i) (nI_toInt (by omega)) (fun c27 => ?_) (fun c27 => ?_)
          · exfalso; omega
          · refine r_aload_n (x := some 761) (pc2 := 54) d_M_simple_53 rfl rfl ?_
            refine r_dup (pc2 := 55) d_M_simple_54 rfl rfl ?_
            refine q_getI (x := nI p) (pc2 := 58) d_M_simple_55 rfl k_M_112 (by decide) (sh_761 hS) hm.1.2.1 ?_
            refine r_iconst (v := nI 1) (pc2 := 59) d_M_simple_58 rfl (by decide) ?_
            refine q_iaddN (pc2 := 60) d_M_simple_59 rfl ?_
            refine q_putI (pc2 := 63) d_M_simple_60 rfl k_M_112 (Or.inl rfl) (sh_761 hS) (Or.inl rfl) (fun I28 hI28 => ?_)
            have hm29 := MS.fd (q := p + 1) hm (Or.inl ⟨rfl, rfl⟩) hI28
            refine r_aload_n (x := some 761) (pc2 := 64) d_M_simple_63 rfl rfl ?_
            have hcall := ih.2.2.1 (d - 1) _ _ _ _ _ hm29 (by omega) hv (by omega) (by omega) (by omega) (by omega)
            rw [hr] at hcall
            dsimp only at hcall
            refine r_callv (M2 := mi_M_cond) (pc2 := 67) (as := []) (rest := []) d_M_simple_64 rfl k_M_136 cm_M_cond cv_M_cond (sh_761 hS) (by decide) rfl rfl rfl (Nat.le_of_ble_eq_true rfl) (hcall) (d2 := d - 1) (ac1 := 0) (az1 := 0) (by omega) (by omega) (by omega) (fun r2 h2 hq2 => ?_)
            obtain ⟨hx, A2, hmq⟩ := hq2
            dsimp only at hx hmq
            subst hx
            obtain ⟨Iq30, Rq30, Lq30, Sq30, Nq30⟩ := h2
            have hmq30 := hmq
            have hS : ShOK Sq30 := hmq30.2.2.2.2.2.2.2.2.1
            have hR : RfOK Rq30 := hmq30.2.2.2.2.2.2.2.2.2.1
            refine r_istore_n (pc2 := 68) d_M_simple_67 rfl rfl (Nat.le_of_ble_eq_true rfl) ?_
            refine r_iload_n (pc2 := 69) d_M_simple_68 rfl rfl ?_
            refine q_if_lt (tgt := 85) (A := ((k0 + t : Nat) : Int)) (pc2 := 72) d_M_simple_69 rfl rfl (nI_toInt (by omega)) (fun c31 => ?_) (fun c31 => ?_)
            · exfalso; omega
            refine r_aload_n (x := some 761) (pc2 := 73) d_M_simple_72 rfl rfl ?_
            refine r_bipush (v := nI 41) (pc2 := 75) d_M_simple_73 rfl (by decide) ?_
            refine q_callv (M2 := mi_M_isSign) (pc2 := 78) d_M_simple_75 rfl k_M_139 cm_M_isSign cv_M_isSign (sh_761 hS) (by decide) rfl rfl rfl (Nat.le_of_ble_eq_true rfl) (c_M_isSign_n hmq30 hn (by omega) hk0 (c := 41) (by omega) hsg (by omega)) (d2 := d - 1) (by omega) (Nat.le_of_eq (Nat.zero_add _)) (Nat.le_of_eq (Nat.zero_add _)) ?_
            refine q_if_eq (tgt := 85) (A := (0 : Int)) (pc2 := 81) d_M_simple_78 rfl rfl (nI_toInt (by omega)) (fun c32 => ?_) (fun c32 => ?_)
            rotate_left
            · exfalso; omega
            refine r_iconst (v := (-1 : Int32)) (pc2 := 86) d_M_simple_85 rfl (by decide) ?_
            refine Run.ret (some (.int ((-1 : Int32)))) d_M_simple_86 ⟨_, rfl⟩ ?_
            exact ⟨rfl, _, hmq30⟩
        · exfalso; omega
  rw [rd0_o h33 h40]
  refine Mt.of pn_M (Nat.le_of_ble_eq_true rfl) ?_
  show Run mi_M_simple d _ _ 0 [(0, .ref 761)] [] (I, R, L, sh, N) _
  refine r_aload_n (x := some 761) (pc2 := 1) d_M_simple_0 rfl rfl ?_
  refine r_aload_n (x := some 761) (pc2 := 2) d_M_simple_1 rfl rfl ?_
  refine q_getI (x := nI p) (pc2 := 5) d_M_simple_2 rfl k_M_112 (by decide) (sh_761 hS) hm.1.2.1 ?_
  refine q_callv (M2 := mi_M_byteAt) (pc2 := 8) d_M_simple_5 rfl k_M_115 cm_M_byteAt cv_M_byteAt (sh_761 hS) (by decide) rfl rfl rfl (Nat.le_of_ble_eq_true rfl) (c_M_byteAt hm hn hk0 (q := p) (by omega)) (d2 := d - 1) (by omega) (Nat.le_of_eq (Nat.zero_add _)) (Nat.le_of_eq (Nat.zero_add _)) ?_
  refine r_istore_n (pc2 := 9) d_M_simple_8 rfl rfl (Nat.le_of_ble_eq_true rfl) ?_
  refine r_iload_n (pc2 := 10) d_M_simple_9 rfl rfl ?_
  refine r_bipush (v := nI 33) (pc2 := 12) d_M_simple_10 rfl (by decide) ?_
  refine q_icmp_ne (tgt := 47) (A := byt T n p) (B := (33 : Int)) (pc2 := 15) d_M_simple_12 rfl rfl (ltr_i) (nI_toInt (by omega)) (fun c33 => ?_) (fun c33 => ?_)
  · refine r_iload_n (pc2 := 48) d_M_simple_47 rfl rfl ?_
    refine r_bipush (v := nI 40) (pc2 := 50) d_M_simple_48 rfl (by decide) ?_
    refine q_icmp_ne (tgt := 87) (A := byt T n p) (B := (40 : Int)) (pc2 := 53) d_M_simple_50 rfl rfl (ltr_i) (nI_toInt (by omega)) (fun c34 => ?_) (fun c34 => ?_)
    · refine r_iload_n (pc2 := 88) d_M_simple_87 rfl rfl ?_
      refine r_bipush (v := nI 42) (pc2 := 90) d_M_simple_88 rfl (by decide) ?_
      refine q_icmp_ne (tgt := 112) (A := byt T n p) (B := (42 : Int)) (pc2 := 93) d_M_simple_90 rfl rfl (ltr_i) (nI_toInt (by omega)) (fun c35 => ?_) (fun c35 => ?_)
      · refine r_iload_n (pc2 := 113) d_M_simple_112 rfl rfl ?_
        refine r_bipush (v := nI 35) (pc2 := 115) d_M_simple_113 rfl (by decide) ?_
        refine q_icmp_ne (tgt := 123) (A := byt T n p) (B := (35 : Int)) (pc2 := 118) d_M_simple_115 rfl rfl (ltr_i) (nI_toInt (by omega)) (fun c36 => ?_) (fun c36 => ?_)
        · refine r_iload_n (pc2 := 124) d_M_simple_123 rfl rfl ?_
          refine r_i2l (pc2 := 125) d_M_simple_124 rfl ?_
          refine r_ldc2 (pc2 := 128) d_M_simple_125 rfl k_M_145 ?_
          refine r_ldc2 (pc2 := 131) d_M_simple_128 rfl k_M_147 ?_
          refine q_calls (M2 := mi_M_in) (pc2 := 134) d_M_simple_131 rfl k_M_68 cm_M_in cs_M_in rfl rfl (Nat.le_of_ble_eq_true rfl) (c_M_in (A := byt T n p) (B := (97 : Int)) (C := (100 : Int)) (toInt64_toInt (ltr_i)) (by decide) (by decide)) (d2 := d - 1) (by omega) (Nat.le_of_eq (Nat.zero_add _)) (Nat.le_of_eq (Nat.zero_add _)) ?_
          refine q_bif_ne (tgt := 139) (pc2 := 137) d_M_simple_134 rfl rfl (fun c37 => ?_) (fun c37 => ?_)
          · have ha : 97 ≤ byt T n p ∧ byt T n p ≤ 100 := by omega
            have hl0 : p < n := byt_lt (T := T) (by omega)
            refine r_aload_n (x := some 761) (pc2 := 140) d_M_simple_139 rfl rfl ?_
            refine r_dup (pc2 := 141) d_M_simple_140 rfl rfl ?_
            refine q_getI (x := nI p) (pc2 := 144) d_M_simple_141 rfl k_M_112 (by decide) (sh_761 hS) hm.1.2.1 ?_
            refine r_iconst (v := nI 1) (pc2 := 145) d_M_simple_144 rfl (by decide) ?_
            refine q_iaddN (pc2 := 146) d_M_simple_145 rfl ?_
            refine q_putI (pc2 := 149) d_M_simple_146 rfl k_M_112 (Or.inl rfl) (sh_761 hS) (Or.inl rfl) (fun I38 hI38 => ?_)
            have hm39 := MS.fd (q := p + 1) hm (Or.inl ⟨rfl, rfl⟩) hI38
            refine r_aload_n (x := some 761) (pc2 := 150) d_M_simple_149 rfl rfl ?_
            refine r_aload_n (x := some 761) (pc2 := 151) d_M_simple_150 rfl rfl ?_
            refine q_getI (x := nI (p + 1)) (pc2 := 154) d_M_simple_151 rfl k_M_112 (by decide) (sh_761 hS) hm39.1.2.1 ?_
            refine q_callv (M2 := mi_M_byteAt) (pc2 := 157) d_M_simple_154 rfl k_M_115 cm_M_byteAt cv_M_byteAt (sh_761 hS) (by decide) rfl rfl rfl (Nat.le_of_ble_eq_true rfl) (c_M_byteAt hm39 hn hk0 (q := p + 1) (by omega)) (d2 := d - 1) (by omega) (Nat.le_of_eq (Nat.zero_add _)) (Nat.le_of_eq (Nat.zero_add _)) ?_
            refine r_istore_n (pc2 := 158) d_M_simple_157 rfl rfl (Nat.le_of_ble_eq_true rfl) ?_
            refine r_iload_n (pc2 := 159) d_M_simple_158 rfl rfl ?_
            refine r_bipush (v := nI 60) (pc2 := 161) d_M_simple_159 rfl (by decide) ?_
            refine q_icmp_eq (tgt := 178) (A := byt T n (p + 1)) (B := (60 : Int)) (pc2 := 164) d_M_simple_161 rfl rfl (ltr_i) (nI_toInt (by omega)) (fun c40 => ?_) (fun c40 => ?_)
            · have hl1 : p + 1 < n := byt_lt (T := T) (by omega)
              refine r_aload_n (x := some 761) (pc2 := 179) d_M_simple_178 rfl rfl ?_
              refine r_dup (pc2 := 180) d_M_simple_179 rfl rfl ?_
              refine q_getI (x := nI (p + 1)) (pc2 := 183) d_M_simple_180 rfl k_M_112 (by decide) (sh_761 hS) hm39.1.2.1 ?_
              refine r_iconst (v := nI 1) (pc2 := 184) d_M_simple_183 rfl (by decide) ?_
              refine q_iaddN (pc2 := 185) d_M_simple_184 rfl ?_
              refine q_putI (pc2 := 188) d_M_simple_185 rfl k_M_112 (Or.inl rfl) (sh_761 hS) (Or.inl rfl) (fun I41 hI41 => ?_)
              have hm42 := MS.fd (q := p + 2) hm39 (Or.inl ⟨rfl, rfl⟩) hI41
              refine r_aload_n (x := some 761) (pc2 := 189) d_M_simple_188 rfl rfl ?_
              refine r_iconst (v := nI 1) (pc2 := 190) d_M_simple_189 rfl (by decide) ?_
              refine r_iconst (v := nI 0) (pc2 := 191) d_M_simple_190 rfl (by decide) ?_
              refine r_bipush (v := nI 9) (pc2 := 193) d_M_simple_191 rfl (by decide) ?_
              refine r_callv (M2 := mi_M_isNumber) (pc2 := 196) d_M_simple_193 rfl k_M_149 cm_M_isNumber cv_M_isNumber (sh_761 hS) (by decide) rfl rfl rfl (Nat.le_of_ble_eq_true rfl) (c_M_isNumber hm42 hn (by omega) hk0 (m := 1) (lo := 0) (hi := 9) (by omega) (by omega) (by omega) (by omega)) (d2 := d - 1) (by omega) (Nat.le_of_eq (Nat.zero_add _)) (Nat.le_of_eq (Nat.zero_add _)) (fun r2 h2 hq2 => ?_)
              obtain ⟨Iq43, rfl, hzq43, hxq43⟩ := hq2
              cases hoq43 : nmb T n 1 (p + 2) 0 9 with
              | none =>
                rw [hoq43] at hxq43
                obtain ⟨rfl, hmq43⟩ := hxq43
                refine q_if_eq (tgt := 216) (A := (0 : Int)) (pc2 := 199) d_M_simple_196 rfl rfl (nI_toInt (by omega)) (fun c44 => ?_) (fun c44 => ?_)
                rotate_left
                · exfalso; omega
                rw [opR_l (show opd T n p = Sum.inl (p + 2) from by rw [opd_t ha, if_pos (by omega), hoq43]; (try rfl))]
                refine r_iconst (v := (-1 : Int32)) (pc2 := 217) d_M_simple_216 rfl (by decide) ?_
                refine Run.ret (some (.int ((-1 : Int32)))) d_M_simple_217 ⟨_, rfl⟩ ?_
                exact ⟨rfl, _, by rw [(gC_0 hm.2.2.2.1.1).2.2]; exact hmq43⟩
              | some rq43 =>
                obtain ⟨eq43, vq43⟩ := rq43
                rw [hoq43] at hxq43
                obtain ⟨rfl, hmq43, hvq43⟩ := hxq43
                have hnbq43 := nmb_p (by omega) hoq43
                refine q_if_eq (tgt := 216) (A := (1 : Int)) (pc2 := 199) d_M_simple_196 rfl rfl (nI_toInt (by omega)) (fun c45 => ?_) (fun c45 => ?_)
                · exfalso; omega
                refine r_aload_n (x := some 761) (pc2 := 200) d_M_simple_199 rfl rfl ?_
                refine r_iconst (v := nI 5) (pc2 := 201) d_M_simple_200 rfl (by decide) ?_
                refine r_iload_n (pc2 := 202) d_M_simple_201 rfl rfl ?_
                refine r_bipush (v := nI 97) (pc2 := 204) d_M_simple_202 rfl (by decide) ?_
                refine q_isubV (pc2 := 205) d_M_simple_204 rfl (A := byt T n p) (B := (97 : Int)) (ltr_i) (nI_toInt (by omega)) (by constructor <;> omega) (fun y46 ey46 hy46 => ?_)
                refine q_top (y := nI ((byt T n p).toNat - 97)) (eq_nI (by rw [hy46]; omega)) ?_
                refine r_aload_n (x := some 761) (pc2 := 206) d_M_simple_205 rfl rfl ?_
                refine q_getI (x := nI vq43) (pc2 := 209) d_M_simple_206 rfl k_M_122 (by decide) (sh_761 hS) hvq43 ?_
                refine r_iload_n (pc2 := 210) d_M_simple_209 rfl rfl ?_
                refine q_top (y := nI ((byt T n (p + 1)).toNat)) (eq_nI (by rw [ltr_i]; omega)) ?_
                rw [opR_r (show opd T n p = Sum.inr (eq43, (5, (byt T n p).toNat - 97, vq43, (byt T n (p + 1)).toNat)) from by rw [opd_t ha, if_pos (by omega), hoq43]; (try rfl)), len_k]
                refine r_callv (M2 := mi_M_newPart) (pc2 := 213) (as := [.int (nI 5), .int (nI ((byt T n p).toNat - 97)), .int (nI vq43), .int (nI ((byt T n (p + 1)).toNat))]) (rest := []) d_M_simple_210 rfl k_M_129 cm_M_newPart cv_M_newPart (sh_761 hS) (by decide) rfl rfl rfl (Nat.le_of_ble_eq_true rfl) (c_M_newPart hmq43 hn (by omega) hk0 (by omega) (k := 5) (a := (byt T n p).toNat - 97) (b := vq43) (s := (byt T n (p + 1)).toNat) (fun h => by omega) (fun h => by omega) (fun _ => ⟨rfl, rfl⟩) (fun _ => rfl) (fun h => by omega) (by omega)) (d2 := d - 1) (ac1 := 0) (az1 := 0) (by omega) (by omega) (by omega) (fun r2 h2 hq2 => ?_)
                obtain ⟨rfl, Aq, hq, hqe, hmq⟩ := hq2
                subst hqe
                obtain ⟨Iq47, Rq47, Lq47, Sq47, Nq47⟩ := h2
                have hmq47 := hmq
                have hS : ShOK Sq47 := hmq47.2.2.2.2.2.2.2.2.1
                have hR : RfOK Rq47 := hmq47.2.2.2.2.2.2.2.2.2.1
                refine r_goto (tgt := 217) d_M_simple_213 rfl ?_
                refine Run.ret (some (.int (nI (k0 + ns.length)))) d_M_simple_217 ⟨_, rfl⟩ ?_
                exact ⟨rfl, _, by dsimp only; rw [len_k]; exact hmq47⟩
            · refine r_iload_n (pc2 := 165) d_M_simple_164 rfl rfl ?_
              refine r_bipush (v := nI 61) (pc2 := 167) d_M_simple_165 rfl (by decide) ?_
              refine q_icmp_eq (tgt := 178) (A := byt T n (p + 1)) (B := (61 : Int)) (pc2 := 170) d_M_simple_167 rfl rfl (ltr_i) (nI_toInt (by omega)) (fun c48 => ?_) (fun c48 => ?_)
              · have hl1 : p + 1 < n := byt_lt (T := T) (by omega)
                refine r_aload_n (x := some 761) (pc2 := 179) d_M_simple_178 rfl rfl ?_
                refine r_dup (pc2 := 180) d_M_simple_179 rfl rfl ?_
                refine q_getI (x := nI (p + 1)) (pc2 := 183) d_M_simple_180 rfl k_M_112 (by decide) (sh_761 hS) hm39.1.2.1 ?_
                refine r_iconst (v := nI 1) (pc2 := 184) d_M_simple_183 rfl (by decide) ?_
                refine q_iaddN (pc2 := 185) d_M_simple_184 rfl ?_
                refine q_putI (pc2 := 188) d_M_simple_185 rfl k_M_112 (Or.inl rfl) (sh_761 hS) (Or.inl rfl) (fun I49 hI49 => ?_)
                have hm50 := MS.fd (q := p + 2) hm39 (Or.inl ⟨rfl, rfl⟩) hI49
                refine r_aload_n (x := some 761) (pc2 := 189) d_M_simple_188 rfl rfl ?_
                refine r_iconst (v := nI 1) (pc2 := 190) d_M_simple_189 rfl (by decide) ?_
                refine r_iconst (v := nI 0) (pc2 := 191) d_M_simple_190 rfl (by decide) ?_
                refine r_bipush (v := nI 9) (pc2 := 193) d_M_simple_191 rfl (by decide) ?_
                refine r_callv (M2 := mi_M_isNumber) (pc2 := 196) d_M_simple_193 rfl k_M_149 cm_M_isNumber cv_M_isNumber (sh_761 hS) (by decide) rfl rfl rfl (Nat.le_of_ble_eq_true rfl) (c_M_isNumber hm50 hn (by omega) hk0 (m := 1) (lo := 0) (hi := 9) (by omega) (by omega) (by omega) (by omega)) (d2 := d - 1) (by omega) (Nat.le_of_eq (Nat.zero_add _)) (Nat.le_of_eq (Nat.zero_add _)) (fun r2 h2 hq2 => ?_)
                obtain ⟨Iq51, rfl, hzq51, hxq51⟩ := hq2
                cases hoq51 : nmb T n 1 (p + 2) 0 9 with
                | none =>
                  rw [hoq51] at hxq51
                  obtain ⟨rfl, hmq51⟩ := hxq51
                  refine q_if_eq (tgt := 216) (A := (0 : Int)) (pc2 := 199) d_M_simple_196 rfl rfl (nI_toInt (by omega)) (fun c52 => ?_) (fun c52 => ?_)
                  rotate_left
                  · exfalso; omega
                  rw [opR_l (show opd T n p = Sum.inl (p + 2) from by rw [opd_t ha, if_pos (by omega), hoq51]; (try rfl))]
                  refine r_iconst (v := (-1 : Int32)) (pc2 := 217) d_M_simple_216 rfl (by decide) ?_
                  refine Run.ret (some (.int ((-1 : Int32)))) d_M_simple_217 ⟨_, rfl⟩ ?_
                  exact ⟨rfl, _, by rw [(gC_0 hm.2.2.2.1.1).2.2]; exact hmq51⟩
                | some rq51 =>
                  obtain ⟨eq51, vq51⟩ := rq51
                  rw [hoq51] at hxq51
                  obtain ⟨rfl, hmq51, hvq51⟩ := hxq51
                  have hnbq51 := nmb_p (by omega) hoq51
                  refine q_if_eq (tgt := 216) (A := (1 : Int)) (pc2 := 199) d_M_simple_196 rfl rfl (nI_toInt (by omega)) (fun c53 => ?_) (fun c53 => ?_)
                  · exfalso; omega
                  refine r_aload_n (x := some 761) (pc2 := 200) d_M_simple_199 rfl rfl ?_
                  refine r_iconst (v := nI 5) (pc2 := 201) d_M_simple_200 rfl (by decide) ?_
                  refine r_iload_n (pc2 := 202) d_M_simple_201 rfl rfl ?_
                  refine r_bipush (v := nI 97) (pc2 := 204) d_M_simple_202 rfl (by decide) ?_
                  refine q_isubV (pc2 := 205) d_M_simple_204 rfl (A := byt T n p) (B := (97 : Int)) (ltr_i) (nI_toInt (by omega)) (by constructor <;> omega) (fun y54 ey54 hy54 => ?_)
                  refine q_top (y := nI ((byt T n p).toNat - 97)) (eq_nI (by rw [hy54]; omega)) ?_
                  refine r_aload_n (x := some 761) (pc2 := 206) d_M_simple_205 rfl rfl ?_
                  refine q_getI (x := nI vq51) (pc2 := 209) d_M_simple_206 rfl k_M_122 (by decide) (sh_761 hS) hvq51 ?_
                  refine r_iload_n (pc2 := 210) d_M_simple_209 rfl rfl ?_
                  refine q_top (y := nI ((byt T n (p + 1)).toNat)) (eq_nI (by rw [ltr_i]; omega)) ?_
                  rw [opR_r (show opd T n p = Sum.inr (eq51, (5, (byt T n p).toNat - 97, vq51, (byt T n (p + 1)).toNat)) from by rw [opd_t ha, if_pos (by omega), hoq51]; (try rfl)), len_k]
                  refine r_callv (M2 := mi_M_newPart) (pc2 := 213) (as := [.int (nI 5), .int (nI ((byt T n p).toNat - 97)), .int (nI vq51), .int (nI ((byt T n (p + 1)).toNat))]) (rest := []) d_M_simple_210 rfl k_M_129 cm_M_newPart cv_M_newPart (sh_761 hS) (by decide) rfl rfl rfl (Nat.le_of_ble_eq_true rfl) (c_M_newPart hmq51 hn (by omega) hk0 (by omega) (k := 5) (a := (byt T n p).toNat - 97) (b := vq51) (s := (byt T n (p + 1)).toNat) (fun h => by omega) (fun h => by omega) (fun _ => ⟨rfl, rfl⟩) (fun _ => rfl) (fun h => by omega) (by omega)) (d2 := d - 1) (ac1 := 0) (az1 := 0) (by omega) (by omega) (by omega) (fun r2 h2 hq2 => ?_)
                  obtain ⟨rfl, Aq, hq, hqe, hmq⟩ := hq2
                  subst hqe
                  obtain ⟨Iq55, Rq55, Lq55, Sq55, Nq55⟩ := h2
                  have hmq55 := hmq
                  have hS : ShOK Sq55 := hmq55.2.2.2.2.2.2.2.2.1
                  have hR : RfOK Rq55 := hmq55.2.2.2.2.2.2.2.2.2.1
                  refine r_goto (tgt := 217) d_M_simple_213 rfl ?_
                  refine Run.ret (some (.int (nI (k0 + ns.length)))) d_M_simple_217 ⟨_, rfl⟩ ?_
                  exact ⟨rfl, _, by dsimp only; rw [len_k]; exact hmq55⟩
              · refine r_iload_n (pc2 := 171) d_M_simple_170 rfl rfl ?_
                refine r_bipush (v := nI 62) (pc2 := 173) d_M_simple_171 rfl (by decide) ?_
                refine q_icmp_eq (tgt := 178) (A := byt T n (p + 1)) (B := (62 : Int)) (pc2 := 176) d_M_simple_173 rfl rfl (ltr_i) (nI_toInt (by omega)) (fun c56 => ?_) (fun c56 => ?_)
                · have hl1 : p + 1 < n := byt_lt (T := T) (by omega)
                  refine r_aload_n (x := some 761) (pc2 := 179) d_M_simple_178 rfl rfl ?_
                  refine r_dup (pc2 := 180) d_M_simple_179 rfl rfl ?_
                  refine q_getI (x := nI (p + 1)) (pc2 := 183) d_M_simple_180 rfl k_M_112 (by decide) (sh_761 hS) hm39.1.2.1 ?_
                  refine r_iconst (v := nI 1) (pc2 := 184) d_M_simple_183 rfl (by decide) ?_
                  refine q_iaddN (pc2 := 185) d_M_simple_184 rfl ?_
                  refine q_putI (pc2 := 188) d_M_simple_185 rfl k_M_112 (Or.inl rfl) (sh_761 hS) (Or.inl rfl) (fun I57 hI57 => ?_)
                  have hm58 := MS.fd (q := p + 2) hm39 (Or.inl ⟨rfl, rfl⟩) hI57
                  refine r_aload_n (x := some 761) (pc2 := 189) d_M_simple_188 rfl rfl ?_
                  refine r_iconst (v := nI 1) (pc2 := 190) d_M_simple_189 rfl (by decide) ?_
                  refine r_iconst (v := nI 0) (pc2 := 191) d_M_simple_190 rfl (by decide) ?_
                  refine r_bipush (v := nI 9) (pc2 := 193) d_M_simple_191 rfl (by decide) ?_
                  refine r_callv (M2 := mi_M_isNumber) (pc2 := 196) d_M_simple_193 rfl k_M_149 cm_M_isNumber cv_M_isNumber (sh_761 hS) (by decide) rfl rfl rfl (Nat.le_of_ble_eq_true rfl) (c_M_isNumber hm58 hn (by omega) hk0 (m := 1) (lo := 0) (hi := 9) (by omega) (by omega) (by omega) (by omega)) (d2 := d - 1) (by omega) (Nat.le_of_eq (Nat.zero_add _)) (Nat.le_of_eq (Nat.zero_add _)) (fun r2 h2 hq2 => ?_)
                  obtain ⟨Iq59, rfl, hzq59, hxq59⟩ := hq2
                  cases hoq59 : nmb T n 1 (p + 2) 0 9 with
                  | none =>
                    rw [hoq59] at hxq59
                    obtain ⟨rfl, hmq59⟩ := hxq59
                    refine q_if_eq (tgt := 216) (A := (0 : Int)) (pc2 := 199) d_M_simple_196 rfl rfl (nI_toInt (by omega)) (fun c60 => ?_) (fun c60 => ?_)
                    rotate_left
                    · exfalso; omega
                    rw [opR_l (show opd T n p = Sum.inl (p + 2) from by rw [opd_t ha, if_pos (by omega), hoq59]; (try rfl))]
                    refine r_iconst (v := (-1 : Int32)) (pc2 := 217) d_M_simple_216 rfl (by decide) ?_
                    refine Run.ret (some (.int ((-1 : Int32)))) d_M_simple_217 ⟨_, rfl⟩ ?_
                    exact ⟨rfl, _, by rw [(gC_0 hm.2.2.2.1.1).2.2]; exact hmq59⟩
                  | some rq59 =>
                    obtain ⟨eq59, vq59⟩ := rq59
                    rw [hoq59] at hxq59
                    obtain ⟨rfl, hmq59, hvq59⟩ := hxq59
                    have hnbq59 := nmb_p (by omega) hoq59
                    refine q_if_eq (tgt := 216) (A := (1 : Int)) (pc2 := 199) d_M_simple_196 rfl rfl (nI_toInt (by omega)) (fun c61 => ?_) (fun c61 => ?_)
                    · exfalso; omega
                    refine r_aload_n (x := some 761) (pc2 := 200) d_M_simple_199 rfl rfl ?_
                    refine r_iconst (v := nI 5) (pc2 := 201) d_M_simple_200 rfl (by decide) ?_
                    refine r_iload_n (pc2 := 202) d_M_simple_201 rfl rfl ?_
                    refine r_bipush (v := nI 97) (pc2 := 204) d_M_simple_202 rfl (by decide) ?_
                    refine q_isubV (pc2 := 205) d_M_simple_204 rfl (A := byt T n p) (B := (97 : Int)) (ltr_i) (nI_toInt (by omega)) (by constructor <;> omega) (fun y62 ey62 hy62 => ?_)
                    refine q_top (y := nI ((byt T n p).toNat - 97)) (eq_nI (by rw [hy62]; omega)) ?_
                    refine r_aload_n (x := some 761) (pc2 := 206) d_M_simple_205 rfl rfl ?_
                    refine q_getI (x := nI vq59) (pc2 := 209) d_M_simple_206 rfl k_M_122 (by decide) (sh_761 hS) hvq59 ?_
                    refine r_iload_n (pc2 := 210) d_M_simple_209 rfl rfl ?_
                    refine q_top (y := nI ((byt T n (p + 1)).toNat)) (eq_nI (by rw [ltr_i]; omega)) ?_
                    rw [opR_r (show opd T n p = Sum.inr (eq59, (5, (byt T n p).toNat - 97, vq59, (byt T n (p + 1)).toNat)) from by rw [opd_t ha, if_pos (by omega), hoq59]; (try rfl)), len_k]
                    refine r_callv (M2 := mi_M_newPart) (pc2 := 213) (as := [.int (nI 5), .int (nI ((byt T n p).toNat - 97)), .int (nI vq59), .int (nI ((byt T n (p + 1)).toNat))]) (rest := []) d_M_simple_210 rfl k_M_129 cm_M_newPart cv_M_newPart (sh_761 hS) (by decide) rfl rfl rfl (Nat.le_of_ble_eq_true rfl) (c_M_newPart hmq59 hn (by omega) hk0 (by omega) (k := 5) (a := (byt T n p).toNat - 97) (b := vq59) (s := (byt T n (p + 1)).toNat) (fun h => by omega) (fun h => by omega) (fun _ => ⟨rfl, rfl⟩) (fun _ => rfl) (fun h => by omega) (by omega)) (d2 := d - 1) (ac1 := 0) (az1 := 0) (by omega) (by omega) (by omega) (fun r2 h2 hq2 => ?_)
                    obtain ⟨rfl, Aq, hq, hqe, hmq⟩ := hq2
                    subst hqe
                    obtain ⟨Iq63, Rq63, Lq63, Sq63, Nq63⟩ := h2
                    have hmq63 := hmq
                    have hS : ShOK Sq63 := hmq63.2.2.2.2.2.2.2.2.1
                    have hR : RfOK Rq63 := hmq63.2.2.2.2.2.2.2.2.2.1
                    refine r_goto (tgt := 217) d_M_simple_213 rfl ?_
                    refine Run.ret (some (.int (nI (k0 + ns.length)))) d_M_simple_217 ⟨_, rfl⟩ ?_
                    exact ⟨rfl, _, by dsimp only; rw [len_k]; exact hmq63⟩
                · rw [opR_l (show opd T n p = Sum.inl (p + 1) from by rw [opd_t ha, if_neg (by omega)]; (try rfl))]
                  refine r_iconst (v := (-1 : Int32)) (pc2 := 177) d_M_simple_176 rfl (by decide) ?_
                  refine Run.ret (some (.int ((-1 : Int32)))) d_M_simple_177 ⟨_, rfl⟩ ?_
                  exact ⟨rfl, _, by rw [(gC_0 hm.2.2.2.1.1).2.2]; exact hm39⟩
          · rw [opR_l (show opd T n p = Sum.inl p from by unfold opd; rw [if_neg (by omega), if_neg (by omega), if_neg (by omega)]; (try rfl))]
            refine r_iconst (v := (-1 : Int32)) (pc2 := 138) d_M_simple_137 rfl (by decide) ?_
            refine Run.ret (some (.int ((-1 : Int32)))) d_M_simple_138 ⟨_, rfl⟩ ?_
            exact ⟨rfl, _, by rw [(gC_0 hm.2.2.2.1.1).2.2]; exact hm⟩
        · refine r_aload_n (x := some 761) (pc2 := 119) d_M_simple_118 rfl rfl ?_
          refine r_callv (M2 := mi_M_keys) (pc2 := 122) (as := []) (rest := []) d_M_simple_119 rfl k_M_142 cm_M_keys cv_M_keys (sh_761 hS) (by decide) rfl rfl rfl (Nat.le_of_ble_eq_true rfl) (c_M_keys hm hn hp hk0 hl hcap (by omega) (by omega)) (d2 := d - 1) (ac1 := 0) (az1 := 0) (by omega) (by omega) (by omega) (fun r2 h2 hq2 => ?_)
          rcases hoo : opd T n p with qo | ro
          · skip
            rw [opR_l hoo] at hq2 ⊢
            obtain ⟨hx, hqr⟩ := hq2
            dsimp only at hx
            subst hx
            obtain ⟨Ix, Rx, Lx, Sx, Nx⟩ := h2
            refine Run.ret (some (.int ((-1 : Int32)))) d_M_simple_122 ⟨_, rfl⟩ ?_
            exact ⟨rfl, hqr⟩
          · skip
            obtain ⟨qo, xo⟩ := ro
            rw [opR_r hoo] at hq2 ⊢
            obtain ⟨hx, hqr⟩ := hq2
            dsimp only at hx
            subst hx
            obtain ⟨Ix, Rx, Lx, Sx, Nx⟩ := h2
            refine Run.ret (some (.int (nI (k0 + ns.length)))) d_M_simple_122 ⟨_, rfl⟩ ?_
            exact ⟨rfl, hqr⟩
      · have hl0 : p < n := byt_lt (T := T) (by omega)
        rw [opR_r (show opd T n p = Sum.inr (p + 1, (4, 0, 0, 0)) from by unfold opd; rw [if_pos (by omega)]), len_k]
        refine r_aload_n (x := some 761) (pc2 := 94) d_M_simple_93 rfl rfl ?_
        refine r_dup (pc2 := 95) d_M_simple_94 rfl rfl ?_
        refine q_getI (x := nI p) (pc2 := 98) d_M_simple_95 rfl k_M_112 (by decide) (sh_761 hS) hm.1.2.1 ?_
        refine r_iconst (v := nI 1) (pc2 := 99) d_M_simple_98 rfl (by decide) ?_
        refine q_iaddN (pc2 := 100) d_M_simple_99 rfl ?_
        refine q_putI (pc2 := 103) d_M_simple_100 rfl k_M_112 (Or.inl rfl) (sh_761 hS) (Or.inl rfl) (fun I64 hI64 => ?_)
        have hm65 := MS.fd (q := p + 1) hm (Or.inl ⟨rfl, rfl⟩) hI64
        refine r_aload_n (x := some 761) (pc2 := 104) d_M_simple_103 rfl rfl ?_
        refine r_iconst (v := nI 4) (pc2 := 105) d_M_simple_104 rfl (by decide) ?_
        refine r_iconst (v := nI 0) (pc2 := 106) d_M_simple_105 rfl (by decide) ?_
        refine r_iconst (v := nI 0) (pc2 := 107) d_M_simple_106 rfl (by decide) ?_
        refine r_iconst (v := nI 0) (pc2 := 108) d_M_simple_107 rfl (by decide) ?_
        refine r_callv (M2 := mi_M_newPart) (pc2 := 111) (as := [.int (nI 4), .int (nI 0), .int (nI 0), .int (nI 0)]) (rest := []) d_M_simple_108 rfl k_M_129 cm_M_newPart cv_M_newPart (sh_761 hS) (by decide) rfl rfl rfl (Nat.le_of_ble_eq_true rfl) (c_M_newPart hm65 hn (by omega) hk0 (by omega) (k := 4) (a := 0) (b := 0) (s := 0) (fun h => by omega) (fun h => by omega) (fun h => by omega) (fun h => by omega) (fun _ => rfl) (by omega)) (d2 := d - 1) (ac1 := 0) (az1 := 0) (by omega) (by omega) (by omega) (fun r2 h2 hq2 => ?_)
        obtain ⟨rfl, Aq, hq, hqe, hmq⟩ := hq2
        subst hqe
        obtain ⟨Iq66, Rq66, Lq66, Sq66, Nq66⟩ := h2
        have hmq66 := hmq
        have hS : ShOK Sq66 := hmq66.2.2.2.2.2.2.2.2.1
        have hR : RfOK Rq66 := hmq66.2.2.2.2.2.2.2.2.2.1
        refine Run.ret (some (.int (nI (k0 + ns.length)))) d_M_simple_111 ⟨_, rfl⟩ ?_
        exact ⟨rfl, _, by dsimp only; rw [len_k]; exact hmq66⟩
    · exfalso; omega
  · exfalso; omega
