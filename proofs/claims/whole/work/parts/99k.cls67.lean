/-! THE REFERENCE: boths, cond -/
theorem l_M_boths {d : Nat} {B : HS} {A0 A : A4} {k0 n p nk f a : Nat} {T : Nat → Int32} {ns : List Nd} {I : Nat → Nat → Int32} {R : Nat → Nat → Option Nat} {L : Nat → Nat → Int64} {sh : Nat → Nat × Nat} {N : Nat} (ih : PS B A0 k0 n T f) (hm : MS B A0 k0 n T p nk ns A (I, R, L, sh, N)) (hn : n ≤ 250) (hp : p ≤ n) (hk0 : k0 ≤ 1000) (hl : ns.length ≤ p) (hcap : k0 + n ≤ 2 * (nk + 1)) (hv : NV ns) (ha : a < ns.length) (hf : 4 * (n - p) + 2 ≤ f + 1) (hd : 3 * (n - p) + 7 ≤ d) : Run mi_M_boths d (gC nk (k0 + (rdP T n (f + 1) 2 a p ns).2.2.length)) (gZ nk (k0 + (rdP T n (f + 1) 2 a p ns).2.2.length)) 5 [(0, .ref 761), (1, .int (nI (k0 + a)))] [] (I, R, L, sh, N) (PQ B A0 k0 n T nk (rdP T n (f + 1) 2 a p ns)) := by
  obtain ⟨-, -, -, -, -, -, -, -, hS, hR, -⟩ := id hm
  dsimp only at hS hR
  by_cases hb : byt T n p = 38
  · skip
    rw [rd2_y hb]
    have hl0 : p < n := byt_lt (T := T) (by omega)
    have hk := rdP_ok (T := T) (n := n) f 0 0 (p + 1) ns (by omega) hv (fun h => by omega)
    rcases hr : rdP T n f 0 0 (p + 1) ns with ⟨oo, q, m⟩
    rw [hr] at hk
    obtain ⟨hk1, hk2, hk3, hk4, hk5, hk6⟩ := hk
    dsimp only at hk1 hk2 hk3 hk4 hk5 hk6
    cases oo with
    | none =>
      dsimp only
      refine r_iload_n (pc2 := 6) d_M_boths_5 rfl rfl ?_
      refine q_if_lt (tgt := 58) (A := ((k0 + a : Nat) : Int)) (pc2 := 9) d_M_boths_6 rfl rfl (nI_toInt (by omega)) (fun c1 => ?_) (fun c1 => ?_)
      · exfalso; omega
      refine r_aload_n (x := some 761) (pc2 := 10) d_M_boths_9 rfl rfl ?_
      refine r_aload_n (x := some 761) (pc2 := 11) d_M_boths_10 rfl rfl ?_
      refine q_getI (x := nI p) (pc2 := 14) d_M_boths_11 rfl k_M_112 (by decide) (sh_761 hS) hm.1.2.1 ?_
      refine q_callv (M2 := mi_M_byteAt) (pc2 := 17) d_M_boths_14 rfl k_M_115 cm_M_byteAt cv_M_byteAt (sh_761 hS) (by decide) rfl rfl rfl (Nat.le_of_ble_eq_true rfl) (c_M_byteAt hm hn hk0 (q := p) (by omega)) (d2 := d - 1) (by omega) (Nat.le_of_eq (Nat.zero_add _)) (Nat.le_of_eq (Nat.zero_add _)) ?_
      refine r_bipush (v := nI 38) (pc2 := 19) d_M_boths_17 rfl (by decide) ?_
      refine q_icmp_ne (tgt := 58) (A := byt T n p) (B := (38 : Int)) (pc2 := 22) d_M_boths_19 rfl rfl (ltr_i) (nI_toInt (by omega)) (fun c2 => ?_) (fun c2 => ?_)
      · refine r_iload_n (pc2 := 59) d_M_boths_58 rfl rfl ?_
        refine Run.ret (some (.int (nI (k0 + a)))) d_M_boths_59 ⟨_, rfl⟩ ?_
        exfalso; omega
      · refine r_aload_n (x := some 761) (pc2 := 23) d_M_boths_22 rfl rfl ?_
        refine r_dup (pc2 := 24) d_M_boths_23 rfl rfl ?_
        refine q_getI (x := nI p) (pc2 := 27) d_M_boths_24 rfl k_M_112 (by decide) (sh_761 hS) hm.1.2.1 ?_
        refine r_iconst (v := nI 1) (pc2 := 28) d_M_boths_27 rfl (by decide) ?_
        refine q_iaddN (pc2 := 29) d_M_boths_28 rfl ?_
        refine q_putI (pc2 := 32) d_M_boths_29 rfl k_M_112 (Or.inl rfl) (sh_761 hS) (Or.inl rfl) (fun I3 hI3 => ?_)
        have hm4 := MS.fd (q := p + 1) hm (Or.inl ⟨rfl, rfl⟩) hI3
        refine r_aload_n (x := some 761) (pc2 := 33) d_M_boths_32 rfl rfl ?_
        have hcall := ih.1 (d - 1) _ _ _ _ _ hm4 (by omega) hv (by omega) (by omega) (by omega) (by omega)
        rw [hr] at hcall
        dsimp only at hcall
        refine r_callv (M2 := mi_M_simple) (pc2 := 36) (as := []) (rest := []) d_M_boths_33 rfl k_M_133 cm_M_simple cv_M_simple (sh_761 hS) (by decide) rfl rfl rfl (Nat.le_of_ble_eq_true rfl) (hcall) (d2 := d - 1) (ac1 := 0) (az1 := 0) (by omega) (by omega) (by omega) (fun r2 h2 hq2 => ?_)
        obtain ⟨hx, A2, hmq⟩ := hq2
        dsimp only at hx hmq
        subst hx
        obtain ⟨Iq5, Rq5, Lq5, Sq5, Nq5⟩ := h2
        have hmq5 := hmq
        have hS : ShOK Sq5 := hmq5.2.2.2.2.2.2.2.2.1
        have hR : RfOK Rq5 := hmq5.2.2.2.2.2.2.2.2.2.1
        refine r_istore_n (pc2 := 37) d_M_boths_36 rfl rfl (Nat.le_of_ble_eq_true rfl) ?_
        refine r_iload_n (pc2 := 38) d_M_boths_37 rfl rfl ?_
        refine q_if_ge (tgt := 45) (A := (-1 : Int)) (pc2 := 41) d_M_boths_38 rfl rfl (by decide) (fun c6 => ?_) (fun c6 => ?_)
        · exfalso; omega
        refine r_iconst (v := (-1 : Int32)) (pc2 := 42) d_M_boths_41 rfl (by decide) ?_
        refine r_goto (tgt := 54) d_M_boths_42 rfl ?_
        refine r_istore_n (pc2 := 55) d_M_boths_54 rfl rfl (Nat.le_of_ble_eq_true rfl) ?_
        refine r_goto (tgt := 5) d_M_boths_55 rfl ?_
        refine r_iload_n (pc2 := 6) d_M_boths_5 rfl rfl ?_
        refine q_if_lt (tgt := 58) (A := (-1 : Int)) (pc2 := 9) d_M_boths_6 rfl rfl (by decide) (fun c7 => ?_) (fun c7 => ?_)
        rotate_left
        · exfalso; omega
        refine r_iload_n (pc2 := 59) d_M_boths_58 rfl rfl ?_
        refine Run.ret (some (.int ((-1 : Int32)))) d_M_boths_59 ⟨_, rfl⟩ ?_
        exact ⟨rfl, _, hmq5⟩
    | some t =>
      have hk7 := hk6 t rfl
      dsimp only
      have hv2 : NV (m ++ [(7, a, t, 0)]) := hk3.add ⟨by dsimp only; omega, fun _ => by dsimp only; omega, fun _ => by dsimp only; omega, fun z => by dsimp only at z; omega, fun z => by dsimp only at z; omega⟩
      have hkL := rdP_ok (T := T) (n := n) f 2 m.length q (m ++ [(7, a, t, 0)]) (by omega) hv2 (fun _ => by rw [len_sg]; omega)
      obtain ⟨hg1, hg2, -, hg4, hg5, -⟩ := hkL
      rw [len_sg] at hg4 hg5
      obtain ⟨KK, hKK⟩ : ∃ K, K = k0 + (rdP T n f 2 m.length q (m ++ [(7, a, t, 0)])).2.2.length := ⟨_, rfl⟩
      have hc1 := gC_t (nk := nk) (k1 := k0 + m.length) (k2 := KK) (by omega) (by omega)
      have hnl := gN_l (nk := nk) (k := k0 + m.length)
      have hc2 := gC_t (nk := gN nk (k0 + m.length)) (k1 := k0 + m.length + 1) (k2 := KK) (by omega) (by omega)
      obtain ⟨nk1, hnk1⟩ : ∃ x, x = gN nk (k0 + m.length) := ⟨_, rfl⟩
      rw [← hnk1] at hc1 hc2 hnl
      refine r_iload_n (pc2 := 6) d_M_boths_5 rfl rfl ?_
      refine q_if_lt (tgt := 58) (A := ((k0 + a : Nat) : Int)) (pc2 := 9) d_M_boths_6 rfl rfl (nI_toInt (by omega)) (fun c8 => ?_) (fun c8 => ?_)
      · exfalso; omega
      refine r_aload_n (x := some 761) (pc2 := 10) d_M_boths_9 rfl rfl ?_
      refine r_aload_n (x := some 761) (pc2 := 11) d_M_boths_10 rfl rfl ?_
      refine q_getI (x := nI p) (pc2 := 14) d_M_boths_11 rfl k_M_112 (by decide) (sh_761 hS) hm.1.2.1 ?_
      refine q_callv (M2 := mi_M_byteAt) (pc2 := 17) d_M_boths_14 rfl k_M_115 cm_M_byteAt cv_M_byteAt (sh_761 hS) (by decide) rfl rfl rfl (Nat.le_of_ble_eq_true rfl) (c_M_byteAt hm hn hk0 (q := p) (by omega)) (d2 := d - 1) (by omega) (Nat.le_of_eq (Nat.zero_add _)) (Nat.le_of_eq (Nat.zero_add _)) ?_
      refine r_bipush (v := nI 38) (pc2 := 19) d_M_boths_17 rfl (by decide) ?_
      refine q_icmp_ne (tgt := 58) (A := byt T n p) (B := (38 : Int)) (pc2 := 22) d_M_boths_19 rfl rfl (ltr_i) (nI_toInt (by omega)) (fun c9 => ?_) (fun c9 => ?_)
      · refine r_iload_n (pc2 := 59) d_M_boths_58 rfl rfl ?_
        refine Run.ret (some (.int (nI (k0 + a)))) d_M_boths_59 ⟨_, rfl⟩ ?_
        exfalso; omega
      · refine r_aload_n (x := some 761) (pc2 := 23) d_M_boths_22 rfl rfl ?_
        refine r_dup (pc2 := 24) d_M_boths_23 rfl rfl ?_
        refine q_getI (x := nI p) (pc2 := 27) d_M_boths_24 rfl k_M_112 (by decide) (sh_761 hS) hm.1.2.1 ?_
        refine r_iconst (v := nI 1) (pc2 := 28) d_M_boths_27 rfl (by decide) ?_
        refine q_iaddN (pc2 := 29) d_M_boths_28 rfl ?_
        refine q_putI (pc2 := 32) d_M_boths_29 rfl k_M_112 (Or.inl rfl) (sh_761 hS) (Or.inl rfl) (fun I10 hI10 => ?_)
        have hm11 := MS.fd (q := p + 1) hm (Or.inl ⟨rfl, rfl⟩) hI10
        refine r_aload_n (x := some 761) (pc2 := 33) d_M_boths_32 rfl rfl ?_
        rw [← hKK]
        have hcall := ih.1 (d - 1) _ _ _ _ _ hm11 (by omega) hv (by omega) (by omega) (by omega) (by omega)
        rw [hr] at hcall
        dsimp only at hcall
        refine r_callv (M2 := mi_M_simple) (pc2 := 36) (as := []) (rest := []) d_M_boths_33 rfl k_M_133 cm_M_simple cv_M_simple (sh_761 hS) (by decide) rfl rfl rfl (Nat.le_of_ble_eq_true rfl) (hcall) (d2 := d - 1) (ac1 := gC nk1 KK) (az1 := gZ nk1 KK) (by omega) (by omega) (by omega) (fun r2 h2 hq2 => ?_)
        obtain ⟨hx, A2, hmq⟩ := hq2
        dsimp only at hx hmq
        subst hx
        obtain ⟨Iq12, Rq12, Lq12, Sq12, Nq12⟩ := h2
        have hmq12 := hmq
        have hS : ShOK Sq12 := hmq12.2.2.2.2.2.2.2.2.1
        have hR : RfOK Rq12 := hmq12.2.2.2.2.2.2.2.2.2.1
        rw [← hnk1] at hmq12
        refine r_istore_n (pc2 := 37) d_M_boths_36 rfl rfl (Nat.le_of_ble_eq_true rfl) ?_
        refine r_iload_n (pc2 := 38) d_M_boths_37 rfl rfl ?_
        refine q_if_ge (tgt := 45) (A := ((k0 + t : Nat) : Int)) (pc2 := 41) d_M_boths_38 rfl rfl (nI_toInt (by omega)) (fun c13 => ?_) (fun c13 => ?_)
        rotate_left
        · exfalso; omega
        refine r_aload_n (x := some 761) (pc2 := 46) d_M_boths_45 rfl rfl ?_
        refine r_bipush (v := nI 7) (pc2 := 48) d_M_boths_46 rfl (by decide) ?_
        refine r_iload_n (pc2 := 49) d_M_boths_48 rfl rfl ?_
        refine r_iload_n (pc2 := 50) d_M_boths_49 rfl rfl ?_
        refine r_iconst (v := nI 0) (pc2 := 51) d_M_boths_50 rfl (by decide) ?_
        refine r_callv (M2 := mi_M_newPart) (pc2 := 54) (as := [.int (nI 7), .int (nI (k0 + a)), .int (nI (k0 + t)), .int (nI 0)]) (rest := []) d_M_boths_51 rfl k_M_129 cm_M_newPart cv_M_newPart (sh_761 hS) (by decide) rfl rfl rfl (Nat.le_of_ble_eq_true rfl) (c_M_newPart hmq12 hn (by omega) hk0 (by omega) (k := 7) (a := a) (b := t) (s := 0) (fun _ => rfl) (fun _ => rfl) (fun h => by omega) (fun h => by omega) (fun h => by omega) (by omega)) (d2 := d - 1) (ac1 := gC (gN nk1 (k0 + m.length + 1)) KK) (az1 := gZ (gN nk1 (k0 + m.length + 1)) KK) (by omega) (by omega) (by omega) (fun r2 h2 hq2 => ?_)
        obtain ⟨rfl, Aq, hq, hqe, hmq⟩ := hq2
        subst hqe
        obtain ⟨Iq14, Rq14, Lq14, Sq14, Nq14⟩ := h2
        have hmq14 := hmq
        have hS : ShOK Sq14 := hmq14.2.2.2.2.2.2.2.2.1
        have hR : RfOK Rq14 := hmq14.2.2.2.2.2.2.2.2.2.1
        refine r_istore_n (pc2 := 55) d_M_boths_54 rfl rfl (Nat.le_of_ble_eq_true rfl) ?_
        refine r_goto (tgt := 5) d_M_boths_55 rfl ?_
        refine Run.sub (l2 := [(0, .ref 761), (1, .int (nI (k0 + m.length)))]) ⟨rfl, rfl, trivial⟩ ?_
        have hnl2 := gN_l (nk := nk1) (k := k0 + m.length + 1)
        have hloop := ih.2.2.2.1 d _ q _ (m ++ [(7, a, t, 0)]) _ m.length hmq14 (by omega) hv2 (by rw [len_sg]; omega) (by omega) (by omega) (by omega) (by rw [len_sg]; omega)
        rw [← hKK] at hloop
        refine Run.imp (fun x h2 hq => ?_) hloop
        exact PQ.g (k1 := k0 + m.length) (by rw [← hKK, ← hnk1]; exact hc1.2.2) (by rw [← hnk1]; exact PQ.g (k1 := k0 + m.length + 1) (by rw [← hKK]; exact hc2.2.2) hq)
  rw [rd2_n hb]
  dsimp only
  refine r_iload_n (pc2 := 6) d_M_boths_5 rfl rfl ?_
  refine q_if_lt (tgt := 58) (A := ((k0 + a : Nat) : Int)) (pc2 := 9) d_M_boths_6 rfl rfl (nI_toInt (by omega)) (fun c15 => ?_) (fun c15 => ?_)
  · exfalso; omega
  refine r_aload_n (x := some 761) (pc2 := 10) d_M_boths_9 rfl rfl ?_
  refine r_aload_n (x := some 761) (pc2 := 11) d_M_boths_10 rfl rfl ?_
  refine q_getI (x := nI p) (pc2 := 14) d_M_boths_11 rfl k_M_112 (by decide) (sh_761 hS) hm.1.2.1 ?_
  refine q_callv (M2 := mi_M_byteAt) (pc2 := 17) d_M_boths_14 rfl k_M_115 cm_M_byteAt cv_M_byteAt (sh_761 hS) (by decide) rfl rfl rfl (Nat.le_of_ble_eq_true rfl) (c_M_byteAt hm hn hk0 (q := p) (by omega)) (d2 := d - 1) (by omega) (Nat.le_of_eq (Nat.zero_add _)) (Nat.le_of_eq (Nat.zero_add _)) ?_
  refine r_bipush (v := nI 38) (pc2 := 19) d_M_boths_17 rfl (by decide) ?_
  refine q_icmp_ne (tgt := 58) (A := byt T n p) (B := (38 : Int)) (pc2 := 22) d_M_boths_19 rfl rfl (ltr_i) (nI_toInt (by omega)) (fun c16 => ?_) (fun c16 => ?_)
  · refine r_iload_n (pc2 := 59) d_M_boths_58 rfl rfl ?_
    refine Run.ret (some (.int (nI (k0 + a)))) d_M_boths_59 ⟨_, rfl⟩ ?_
    exact ⟨rfl, _, by dsimp only; rw [(gC_0 hm.2.2.2.1.1).2.2]; exact hm⟩
  · exfalso; omega
theorem s_M_boths {d : Nat} {B : HS} {A0 A : A4} {k0 n p nk f a : Nat} {T : Nat → Int32} {ns : List Nd} {I : Nat → Nat → Int32} {R : Nat → Nat → Option Nat} {L : Nat → Nat → Int64} {sh : Nat → Nat × Nat} {N : Nat} (ih : PS B A0 k0 n T f) (hm : MS B A0 k0 n T p nk ns A (I, R, L, sh, N)) (hn : n ≤ 250) (hp : p ≤ n) (hk0 : k0 ≤ 1000) (hl : ns.length ≤ p) (hcap : k0 + n ≤ 2 * (nk + 1)) (hv : NV ns) (hf : 4 * (n - p) + 3 ≤ f + 1) (hd : 3 * (n - p) + 7 ≤ d) : Mt mi_M_boths d (gC nk (k0 + (rdP T n (f + 1) 1 0 p ns).2.2.length)) (gZ nk (k0 + (rdP T n (f + 1) 1 0 p ns).2.2.length)) [.ref 761] (I, R, L, sh, N) (PQ B A0 k0 n T nk (rdP T n (f + 1) 1 0 p ns)) := by
  obtain ⟨-, -, -, -, -, -, -, -, hS, hR, -⟩ := id hm
  dsimp only at hS hR
  rw [rd1]
  have hk := rdP_ok (T := T) (n := n) f 0 0 p ns (by omega) hv (fun h => by omega)
  rcases hr : rdP T n f 0 0 p ns with ⟨oo, q, m⟩
  rw [hr] at hk
  obtain ⟨hk1, hk2, hk3, hk4, hk5, hk6⟩ := hk
  dsimp only at hk1 hk2 hk3 hk4 hk5 hk6
  cases oo with
  | none =>
    dsimp only
    refine Mt.of pn_M (Nat.le_of_ble_eq_true rfl) ?_
    show Run mi_M_boths d _ _ 0 [(0, .ref 761)] [] (I, R, L, sh, N) _
    refine r_aload_n (x := some 761) (pc2 := 1) d_M_boths_0 rfl rfl ?_
    have hcall := ih.1 (d - 1) _ _ _ _ _ hm (by omega) hv (by omega) (by omega) (by omega) (by omega)
    rw [hr] at hcall
    dsimp only at hcall
    refine r_callv (M2 := mi_M_simple) (pc2 := 4) (as := []) (rest := []) d_M_boths_1 rfl k_M_133 cm_M_simple cv_M_simple (sh_761 hS) (by decide) rfl rfl rfl (Nat.le_of_ble_eq_true rfl) (hcall) (d2 := d - 1) (ac1 := 0) (az1 := 0) (by omega) (by omega) (by omega) (fun r2 h2 hq2 => ?_)
    obtain ⟨hx, A2, hmq⟩ := hq2
    dsimp only at hx hmq
    subst hx
    obtain ⟨Iq1, Rq1, Lq1, Sq1, Nq1⟩ := h2
    have hmq1 := hmq
    have hS : ShOK Sq1 := hmq1.2.2.2.2.2.2.2.2.1
    have hR : RfOK Rq1 := hmq1.2.2.2.2.2.2.2.2.2.1
    refine r_istore_n (pc2 := 5) d_M_boths_4 rfl rfl (Nat.le_of_ble_eq_true rfl) ?_
    refine r_iload_n (pc2 := 6) d_M_boths_5 rfl rfl ?_
    refine q_if_lt (tgt := 58) (A := (-1 : Int)) (pc2 := 9) d_M_boths_6 rfl rfl (by decide) (fun c2 => ?_) (fun c2 => ?_)
    rotate_left
    · exfalso; omega
    refine r_iload_n (pc2 := 59) d_M_boths_58 rfl rfl ?_
    refine Run.ret (some (.int ((-1 : Int32)))) d_M_boths_59 ⟨_, rfl⟩ ?_
    exact ⟨rfl, _, hmq1⟩
  | some t =>
    have hk7 := hk6 t rfl
    dsimp only
    have hkL := rdP_ok (T := T) (n := n) f 2 t q m (by omega) hk3 (fun _ => by omega)
    obtain ⟨hg1, hg2, -, hg4, hg5, -⟩ := hkL
    obtain ⟨KK, hKK⟩ : ∃ K, K = k0 + (rdP T n f 2 t q m).2.2.length := ⟨_, rfl⟩
    have hc1 := gC_t (nk := nk) (k1 := k0 + m.length) (k2 := KK) (by omega) (by omega)
    have hnl := gN_l (nk := nk) (k := k0 + m.length)
    obtain ⟨nk1, hnk1⟩ : ∃ x, x = gN nk (k0 + m.length) := ⟨_, rfl⟩
    rw [← hnk1] at hc1 hnl
    refine Mt.of pn_M (Nat.le_of_ble_eq_true rfl) ?_
    show Run mi_M_boths d _ _ 0 [(0, .ref 761)] [] (I, R, L, sh, N) _
    refine r_aload_n (x := some 761) (pc2 := 1) d_M_boths_0 rfl rfl ?_
    rw [← hKK]
    have hcall := ih.1 (d - 1) _ _ _ _ _ hm (by omega) hv (by omega) (by omega) (by omega) (by omega)
    rw [hr] at hcall
    dsimp only at hcall
    refine r_callv (M2 := mi_M_simple) (pc2 := 4) (as := []) (rest := []) d_M_boths_1 rfl k_M_133 cm_M_simple cv_M_simple (sh_761 hS) (by decide) rfl rfl rfl (Nat.le_of_ble_eq_true rfl) (hcall) (d2 := d - 1) (ac1 := gC nk1 KK) (az1 := gZ nk1 KK) (by omega) (by omega) (by omega) (fun r2 h2 hq2 => ?_)
    obtain ⟨hx, A2, hmq⟩ := hq2
    dsimp only at hx hmq
    subst hx
    obtain ⟨Iq3, Rq3, Lq3, Sq3, Nq3⟩ := h2
    have hmq3 := hmq
    have hS : ShOK Sq3 := hmq3.2.2.2.2.2.2.2.2.1
    have hR : RfOK Rq3 := hmq3.2.2.2.2.2.2.2.2.2.1
    rw [← hnk1] at hmq3
    refine r_istore_n (pc2 := 5) d_M_boths_4 rfl rfl (Nat.le_of_ble_eq_true rfl) ?_
    refine Run.sub (l2 := [(0, .ref 761), (1, .int (nI (k0 + t)))]) ⟨rfl, rfl, trivial⟩ ?_
    have hloop := ih.2.2.2.1 d _ q _ m _ t hmq3 (by omega) hk3 (by omega) (by omega) (by omega) (by omega) hk7
    rw [← hKK] at hloop
    refine Run.imp (fun x h2 hq => ?_) hloop
    exact PQ.g (k1 := k0 + m.length) (by rw [← hKK, ← hnk1]; exact hc1.2.2) (by rw [← hnk1]; exact hq)
theorem l_M_cond {d : Nat} {B : HS} {A0 A : A4} {k0 n p nk f a : Nat} {T : Nat → Int32} {ns : List Nd} {I : Nat → Nat → Int32} {R : Nat → Nat → Option Nat} {L : Nat → Nat → Int64} {sh : Nat → Nat × Nat} {N : Nat} (ih : PS B A0 k0 n T f) (hm : MS B A0 k0 n T p nk ns A (I, R, L, sh, N)) (hn : n ≤ 250) (hp : p ≤ n) (hk0 : k0 ≤ 1000) (hl : ns.length ≤ p) (hcap : k0 + n ≤ 2 * (nk + 1)) (hv : NV ns) (ha : a < ns.length) (hf : 4 * (n - p) + 2 ≤ f + 1) (hd : 3 * (n - p) + 8 ≤ d) : Run mi_M_cond d (gC nk (k0 + (rdP T n (f + 1) 4 a p ns).2.2.length)) (gZ nk (k0 + (rdP T n (f + 1) 4 a p ns).2.2.length)) 5 [(0, .ref 761), (1, .int (nI (k0 + a)))] [] (I, R, L, sh, N) (PQ B A0 k0 n T nk (rdP T n (f + 1) 4 a p ns)) := by
  obtain ⟨-, -, -, -, -, -, -, -, hS, hR, -⟩ := id hm
  dsimp only at hS hR
  by_cases hb : byt T n p = 124
  · skip
    rw [rd4_y hb]
    have hl0 : p < n := byt_lt (T := T) (by omega)
    have hk := rdP_ok (T := T) (n := n) f 1 0 (p + 1) ns (by omega) hv (fun h => by omega)
    rcases hr : rdP T n f 1 0 (p + 1) ns with ⟨oo, q, m⟩
    rw [hr] at hk
    obtain ⟨hk1, hk2, hk3, hk4, hk5, hk6⟩ := hk
    dsimp only at hk1 hk2 hk3 hk4 hk5 hk6
    cases oo with
    | none =>
      dsimp only
      refine r_iload_n (pc2 := 6) d_M_cond_5 rfl rfl ?_
      refine q_if_lt (tgt := 58) (A := ((k0 + a : Nat) : Int)) (pc2 := 9) d_M_cond_6 rfl rfl (nI_toInt (by omega)) (fun c1 => ?_) (fun c1 => ?_)
      · exfalso; omega
      refine r_aload_n (x := some 761) (pc2 := 10) d_M_cond_9 rfl rfl ?_
      refine r_aload_n (x := some 761) (pc2 := 11) d_M_cond_10 rfl rfl ?_
      refine q_getI (x := nI p) (pc2 := 14) d_M_cond_11 rfl k_M_112 (by decide) (sh_761 hS) hm.1.2.1 ?_
      refine q_callv (M2 := mi_M_byteAt) (pc2 := 17) d_M_cond_14 rfl k_M_115 cm_M_byteAt cv_M_byteAt (sh_761 hS) (by decide) rfl rfl rfl (Nat.le_of_ble_eq_true rfl) (c_M_byteAt hm hn hk0 (q := p) (by omega)) (d2 := d - 1) (by omega) (Nat.le_of_eq (Nat.zero_add _)) (Nat.le_of_eq (Nat.zero_add _)) ?_
      refine r_bipush (v := nI 124) (pc2 := 19) d_M_cond_17 rfl (by decide) ?_
      refine q_icmp_ne (tgt := 58) (A := byt T n p) (B := (124 : Int)) (pc2 := 22) d_M_cond_19 rfl rfl (ltr_i) (nI_toInt (by omega)) (fun c2 => ?_) (fun c2 => ?_)
      · refine r_iload_n (pc2 := 59) d_M_cond_58 rfl rfl ?_
        refine Run.ret (some (.int (nI (k0 + a)))) d_M_cond_59 ⟨_, rfl⟩ ?_
        exfalso; omega
      · refine r_aload_n (x := some 761) (pc2 := 23) d_M_cond_22 rfl rfl ?_
        refine r_dup (pc2 := 24) d_M_cond_23 rfl rfl ?_
        refine q_getI (x := nI p) (pc2 := 27) d_M_cond_24 rfl k_M_112 (by decide) (sh_761 hS) hm.1.2.1 ?_
        refine r_iconst (v := nI 1) (pc2 := 28) d_M_cond_27 rfl (by decide) ?_
        refine q_iaddN (pc2 := 29) d_M_cond_28 rfl ?_
        refine q_putI (pc2 := 32) d_M_cond_29 rfl k_M_112 (Or.inl rfl) (sh_761 hS) (Or.inl rfl) (fun I3 hI3 => ?_)
        have hm4 := MS.fd (q := p + 1) hm (Or.inl ⟨rfl, rfl⟩) hI3
        refine r_aload_n (x := some 761) (pc2 := 33) d_M_cond_32 rfl rfl ?_
        have hcall := ih.2.1 (d - 1) _ _ _ _ _ hm4 (by omega) hv (by omega) (by omega) (by omega) (by omega)
        rw [hr] at hcall
        dsimp only at hcall
        refine r_callv (M2 := mi_M_boths) (pc2 := 36) (as := []) (rest := []) d_M_cond_33 rfl k_M_125 cm_M_boths cv_M_boths (sh_761 hS) (by decide) rfl rfl rfl (Nat.le_of_ble_eq_true rfl) (hcall) (d2 := d - 1) (ac1 := 0) (az1 := 0) (by omega) (by omega) (by omega) (fun r2 h2 hq2 => ?_)
        obtain ⟨hx, A2, hmq⟩ := hq2
        dsimp only at hx hmq
        subst hx
        obtain ⟨Iq5, Rq5, Lq5, Sq5, Nq5⟩ := h2
        have hmq5 := hmq
        have hS : ShOK Sq5 := hmq5.2.2.2.2.2.2.2.2.1
        have hR : RfOK Rq5 := hmq5.2.2.2.2.2.2.2.2.2.1
        refine r_istore_n (pc2 := 37) d_M_cond_36 rfl rfl (Nat.le_of_ble_eq_true rfl) ?_
        refine r_iload_n (pc2 := 38) d_M_cond_37 rfl rfl ?_
        refine q_if_ge (tgt := 45) (A := (-1 : Int)) (pc2 := 41) d_M_cond_38 rfl rfl (by decide) (fun c6 => ?_) (fun c6 => ?_)
        · exfalso; omega
        refine r_iconst (v := (-1 : Int32)) (pc2 := 42) d_M_cond_41 rfl (by decide) ?_
        refine r_goto (tgt := 54) d_M_cond_42 rfl ?_
        refine r_istore_n (pc2 := 55) d_M_cond_54 rfl rfl (Nat.le_of_ble_eq_true rfl) ?_
        refine r_goto (tgt := 5) d_M_cond_55 rfl ?_
        refine r_iload_n (pc2 := 6) d_M_cond_5 rfl rfl ?_
        refine q_if_lt (tgt := 58) (A := (-1 : Int)) (pc2 := 9) d_M_cond_6 rfl rfl (by decide) (fun c7 => ?_) (fun c7 => ?_)
        rotate_left
        · exfalso; omega
        refine r_iload_n (pc2 := 59) d_M_cond_58 rfl rfl ?_
        refine Run.ret (some (.int ((-1 : Int32)))) d_M_cond_59 ⟨_, rfl⟩ ?_
        exact ⟨rfl, _, hmq5⟩
    | some t =>
      have hk7 := hk6 t rfl
      dsimp only
      have hv2 : NV (m ++ [(8, a, t, 0)]) := hk3.add ⟨by dsimp only; omega, fun _ => by dsimp only; omega, fun _ => by dsimp only; omega, fun z => by dsimp only at z; omega, fun z => by dsimp only at z; omega⟩
      have hkL := rdP_ok (T := T) (n := n) f 4 m.length q (m ++ [(8, a, t, 0)]) (by omega) hv2 (fun _ => by rw [len_sg]; omega)
      obtain ⟨hg1, hg2, -, hg4, hg5, -⟩ := hkL
      rw [len_sg] at hg4 hg5
      obtain ⟨KK, hKK⟩ : ∃ K, K = k0 + (rdP T n f 4 m.length q (m ++ [(8, a, t, 0)])).2.2.length := ⟨_, rfl⟩
      have hc1 := gC_t (nk := nk) (k1 := k0 + m.length) (k2 := KK) (by omega) (by omega)
      have hnl := gN_l (nk := nk) (k := k0 + m.length)
      have hc2 := gC_t (nk := gN nk (k0 + m.length)) (k1 := k0 + m.length + 1) (k2 := KK) (by omega) (by omega)
      obtain ⟨nk1, hnk1⟩ : ∃ x, x = gN nk (k0 + m.length) := ⟨_, rfl⟩
      rw [← hnk1] at hc1 hc2 hnl
      refine r_iload_n (pc2 := 6) d_M_cond_5 rfl rfl ?_
      refine q_if_lt (tgt := 58) (A := ((k0 + a : Nat) : Int)) (pc2 := 9) d_M_cond_6 rfl rfl (nI_toInt (by omega)) (fun c8 => ?_) (fun c8 => ?_)
      · exfalso; omega
      refine r_aload_n (x := some 761) (pc2 := 10) d_M_cond_9 rfl rfl ?_
      refine r_aload_n (x := some 761) (pc2 := 11) d_M_cond_10 rfl rfl ?_
      refine q_getI (x := nI p) (pc2 := 14) d_M_cond_11 rfl k_M_112 (by decide) (sh_761 hS) hm.1.2.1 ?_
      refine q_callv (M2 := mi_M_byteAt) (pc2 := 17) d_M_cond_14 rfl k_M_115 cm_M_byteAt cv_M_byteAt (sh_761 hS) (by decide) rfl rfl rfl (Nat.le_of_ble_eq_true rfl) (c_M_byteAt hm hn hk0 (q := p) (by omega)) (d2 := d - 1) (by omega) (Nat.le_of_eq (Nat.zero_add _)) (Nat.le_of_eq (Nat.zero_add _)) ?_
      refine r_bipush (v := nI 124) (pc2 := 19) d_M_cond_17 rfl (by decide) ?_
      refine q_icmp_ne (tgt := 58) (A := byt T n p) (B := (124 : Int)) (pc2 := 22) d_M_cond_19 rfl rfl (ltr_i) (nI_toInt (by omega)) (fun c9 => ?_) (fun c9 => ?_)
      · refine r_iload_n (pc2 := 59) d_M_cond_58 rfl rfl ?_
        refine Run.ret (some (.int (nI (k0 + a)))) d_M_cond_59 ⟨_, rfl⟩ ?_
        exfalso; omega
      · refine r_aload_n (x := some 761) (pc2 := 23) d_M_cond_22 rfl rfl ?_
        refine r_dup (pc2 := 24) d_M_cond_23 rfl rfl ?_
        refine q_getI (x := nI p) (pc2 := 27) d_M_cond_24 rfl k_M_112 (by decide) (sh_761 hS) hm.1.2.1 ?_
        refine r_iconst (v := nI 1) (pc2 := 28) d_M_cond_27 rfl (by decide) ?_
        refine q_iaddN (pc2 := 29) d_M_cond_28 rfl ?_
        refine q_putI (pc2 := 32) d_M_cond_29 rfl k_M_112 (Or.inl rfl) (sh_761 hS) (Or.inl rfl) (fun I10 hI10 => ?_)
        have hm11 := MS.fd (q := p + 1) hm (Or.inl ⟨rfl, rfl⟩) hI10
        refine r_aload_n (x := some 761) (pc2 := 33) d_M_cond_32 rfl rfl ?_
        rw [← hKK]
        have hcall := ih.2.1 (d - 1) _ _ _ _ _ hm11 (by omega) hv (by omega) (by omega) (by omega) (by omega)
        rw [hr] at hcall
        dsimp only at hcall
        refine r_callv (M2 := mi_M_boths) (pc2 := 36) (as := []) (rest := []) d_M_cond_33 rfl k_M_125 cm_M_boths cv_M_boths (sh_761 hS) (by decide) rfl rfl rfl (Nat.le_of_ble_eq_true rfl) (hcall) (d2 := d - 1) (ac1 := gC nk1 KK) (az1 := gZ nk1 KK) (by omega) (by omega) (by omega) (fun r2 h2 hq2 => ?_)
        obtain ⟨hx, A2, hmq⟩ := hq2
        dsimp only at hx hmq
        subst hx
        obtain ⟨Iq12, Rq12, Lq12, Sq12, Nq12⟩ := h2
        have hmq12 := hmq
        have hS : ShOK Sq12 := hmq12.2.2.2.2.2.2.2.2.1
        have hR : RfOK Rq12 := hmq12.2.2.2.2.2.2.2.2.2.1
        rw [← hnk1] at hmq12
        refine r_istore_n (pc2 := 37) d_M_cond_36 rfl rfl (Nat.le_of_ble_eq_true rfl) ?_
        refine r_iload_n (pc2 := 38) d_M_cond_37 rfl rfl ?_
        refine q_if_ge (tgt := 45) (A := ((k0 + t : Nat) : Int)) (pc2 := 41) d_M_cond_38 rfl rfl (nI_toInt (by omega)) (fun c13 => ?_) (fun c13 => ?_)
        rotate_left
        · exfalso; omega
        refine r_aload_n (x := some 761) (pc2 := 46) d_M_cond_45 rfl rfl ?_
        refine r_bipush (v := nI 8) (pc2 := 48) d_M_cond_46 rfl (by decide) ?_
        refine r_iload_n (pc2 := 49) d_M_cond_48 rfl rfl ?_
        refine r_iload_n (pc2 := 50) d_M_cond_49 rfl rfl ?_
        refine r_iconst (v := nI 0) (pc2 := 51) d_M_cond_50 rfl (by decide) ?_
        refine r_callv (M2 := mi_M_newPart) (pc2 := 54) (as := [.int (nI 8), .int (nI (k0 + a)), .int (nI (k0 + t)), .int (nI 0)]) (rest := []) d_M_cond_51 rfl k_M_129 cm_M_newPart cv_M_newPart (sh_761 hS) (by decide) rfl rfl rfl (Nat.le_of_ble_eq_true rfl) (c_M_newPart hmq12 hn (by omega) hk0 (by omega) (k := 8) (a := a) (b := t) (s := 0) (fun _ => rfl) (fun _ => rfl) (fun h => by omega) (fun h => by omega) (fun h => by omega) (by omega)) (d2 := d - 1) (ac1 := gC (gN nk1 (k0 + m.length + 1)) KK) (az1 := gZ (gN nk1 (k0 + m.length + 1)) KK) (by omega) (by omega) (by omega) (fun r2 h2 hq2 => ?_)
        obtain ⟨rfl, Aq, hq, hqe, hmq⟩ := hq2
        subst hqe
        obtain ⟨Iq14, Rq14, Lq14, Sq14, Nq14⟩ := h2
        have hmq14 := hmq
        have hS : ShOK Sq14 := hmq14.2.2.2.2.2.2.2.2.1
        have hR : RfOK Rq14 := hmq14.2.2.2.2.2.2.2.2.2.1
        refine r_istore_n (pc2 := 55) d_M_cond_54 rfl rfl (Nat.le_of_ble_eq_true rfl) ?_
        refine r_goto (tgt := 5) d_M_cond_55 rfl ?_
        refine Run.sub (l2 := [(0, .ref 761), (1, .int (nI (k0 + m.length)))]) ⟨rfl, rfl, trivial⟩ ?_
        have hnl2 := gN_l (nk := nk1) (k := k0 + m.length + 1)
        have hloop := ih.2.2.2.2 d _ q _ (m ++ [(8, a, t, 0)]) _ m.length hmq14 (by omega) hv2 (by rw [len_sg]; omega) (by omega) (by omega) (by omega) (by rw [len_sg]; omega)
        rw [← hKK] at hloop
        refine Run.imp (fun x h2 hq => ?_) hloop
        exact PQ.g (k1 := k0 + m.length) (by rw [← hKK, ← hnk1]; exact hc1.2.2) (by rw [← hnk1]; exact PQ.g (k1 := k0 + m.length + 1) (by rw [← hKK]; exact hc2.2.2) hq)
  rw [rd4_n hb]
  dsimp only
  refine r_iload_n (pc2 := 6) d_M_cond_5 rfl rfl ?_
  refine q_if_lt (tgt := 58) (A := ((k0 + a : Nat) : Int)) (pc2 := 9) d_M_cond_6 rfl rfl (nI_toInt (by omega)) (fun c15 => ?_) (fun c15 => ?_)
  · exfalso; omega
  refine r_aload_n (x := some 761) (pc2 := 10) d_M_cond_9 rfl rfl ?_
  refine r_aload_n (x := some 761) (pc2 := 11) d_M_cond_10 rfl rfl ?_
  refine q_getI (x := nI p) (pc2 := 14) d_M_cond_11 rfl k_M_112 (by decide) (sh_761 hS) hm.1.2.1 ?_
  refine q_callv (M2 := mi_M_byteAt) (pc2 := 17) d_M_cond_14 rfl k_M_115 cm_M_byteAt cv_M_byteAt (sh_761 hS) (by decide) rfl rfl rfl (Nat.le_of_ble_eq_true rfl) (c_M_byteAt hm hn hk0 (q := p) (by omega)) (d2 := d - 1) (by omega) (Nat.le_of_eq (Nat.zero_add _)) (Nat.le_of_eq (Nat.zero_add _)) ?_
  refine r_bipush (v := nI 124) (pc2 := 19) d_M_cond_17 rfl (by decide) ?_
  refine q_icmp_ne (tgt := 58) (A := byt T n p) (B := (124 : Int)) (pc2 := 22) d_M_cond_19 rfl rfl (ltr_i) (nI_toInt (by omega)) (fun c16 => ?_) (fun c16 => ?_)
  · refine r_iload_n (pc2 := 59) d_M_cond_58 rfl rfl ?_
    refine Run.ret (some (.int (nI (k0 + a)))) d_M_cond_59 ⟨_, rfl⟩ ?_
    exact ⟨rfl, _, by dsimp only; rw [(gC_0 hm.2.2.2.1.1).2.2]; exact hm⟩
  · exfalso; omega
theorem s_M_cond {d : Nat} {B : HS} {A0 A : A4} {k0 n p nk f a : Nat} {T : Nat → Int32} {ns : List Nd} {I : Nat → Nat → Int32} {R : Nat → Nat → Option Nat} {L : Nat → Nat → Int64} {sh : Nat → Nat × Nat} {N : Nat} (ih : PS B A0 k0 n T f) (hm : MS B A0 k0 n T p nk ns A (I, R, L, sh, N)) (hn : n ≤ 250) (hp : p ≤ n) (hk0 : k0 ≤ 1000) (hl : ns.length ≤ p) (hcap : k0 + n ≤ 2 * (nk + 1)) (hv : NV ns) (hf : 4 * (n - p) + 4 ≤ f + 1) (hd : 3 * (n - p) + 8 ≤ d) : Mt mi_M_cond d (gC nk (k0 + (rdP T n (f + 1) 3 0 p ns).2.2.length)) (gZ nk (k0 + (rdP T n (f + 1) 3 0 p ns).2.2.length)) [.ref 761] (I, R, L, sh, N) (PQ B A0 k0 n T nk (rdP T n (f + 1) 3 0 p ns)) := by
  obtain ⟨-, -, -, -, -, -, -, -, hS, hR, -⟩ := id hm
  dsimp only at hS hR
  rw [rd3]
  have hk := rdP_ok (T := T) (n := n) f 1 0 p ns (by omega) hv (fun h => by omega)
  rcases hr : rdP T n f 1 0 p ns with ⟨oo, q, m⟩
  rw [hr] at hk
  obtain ⟨hk1, hk2, hk3, hk4, hk5, hk6⟩ := hk
  dsimp only at hk1 hk2 hk3 hk4 hk5 hk6
  cases oo with
  | none =>
    dsimp only
    refine Mt.of pn_M (Nat.le_of_ble_eq_true rfl) ?_
    show Run mi_M_cond d _ _ 0 [(0, .ref 761)] [] (I, R, L, sh, N) _
    refine r_aload_n (x := some 761) (pc2 := 1) d_M_cond_0 rfl rfl ?_
    have hcall := ih.2.1 (d - 1) _ _ _ _ _ hm (by omega) hv (by omega) (by omega) (by omega) (by omega)
    rw [hr] at hcall
    dsimp only at hcall
    refine r_callv (M2 := mi_M_boths) (pc2 := 4) (as := []) (rest := []) d_M_cond_1 rfl k_M_125 cm_M_boths cv_M_boths (sh_761 hS) (by decide) rfl rfl rfl (Nat.le_of_ble_eq_true rfl) (hcall) (d2 := d - 1) (ac1 := 0) (az1 := 0) (by omega) (by omega) (by omega) (fun r2 h2 hq2 => ?_)
    obtain ⟨hx, A2, hmq⟩ := hq2
    dsimp only at hx hmq
    subst hx
    obtain ⟨Iq1, Rq1, Lq1, Sq1, Nq1⟩ := h2
    have hmq1 := hmq
    have hS : ShOK Sq1 := hmq1.2.2.2.2.2.2.2.2.1
    have hR : RfOK Rq1 := hmq1.2.2.2.2.2.2.2.2.2.1
    refine r_istore_n (pc2 := 5) d_M_cond_4 rfl rfl (Nat.le_of_ble_eq_true rfl) ?_
    refine r_iload_n (pc2 := 6) d_M_cond_5 rfl rfl ?_
    refine q_if_lt (tgt := 58) (A := (-1 : Int)) (pc2 := 9) d_M_cond_6 rfl rfl (by decide) (fun c2 => ?_) (fun c2 => ?_)
    rotate_left
    · exfalso; omega
    refine r_iload_n (pc2 := 59) d_M_cond_58 rfl rfl ?_
    refine Run.ret (some (.int ((-1 : Int32)))) d_M_cond_59 ⟨_, rfl⟩ ?_
    exact ⟨rfl, _, hmq1⟩
  | some t =>
    have hk7 := hk6 t rfl
    dsimp only
    have hkL := rdP_ok (T := T) (n := n) f 4 t q m (by omega) hk3 (fun _ => by omega)
    obtain ⟨hg1, hg2, -, hg4, hg5, -⟩ := hkL
    obtain ⟨KK, hKK⟩ : ∃ K, K = k0 + (rdP T n f 4 t q m).2.2.length := ⟨_, rfl⟩
    have hc1 := gC_t (nk := nk) (k1 := k0 + m.length) (k2 := KK) (by omega) (by omega)
    have hnl := gN_l (nk := nk) (k := k0 + m.length)
    obtain ⟨nk1, hnk1⟩ : ∃ x, x = gN nk (k0 + m.length) := ⟨_, rfl⟩
    rw [← hnk1] at hc1 hnl
    refine Mt.of pn_M (Nat.le_of_ble_eq_true rfl) ?_
    show Run mi_M_cond d _ _ 0 [(0, .ref 761)] [] (I, R, L, sh, N) _
    refine r_aload_n (x := some 761) (pc2 := 1) d_M_cond_0 rfl rfl ?_
    rw [← hKK]
    have hcall := ih.2.1 (d - 1) _ _ _ _ _ hm (by omega) hv (by omega) (by omega) (by omega) (by omega)
    rw [hr] at hcall
    dsimp only at hcall
    refine r_callv (M2 := mi_M_boths) (pc2 := 4) (as := []) (rest := []) d_M_cond_1 rfl k_M_125 cm_M_boths cv_M_boths (sh_761 hS) (by decide) rfl rfl rfl (Nat.le_of_ble_eq_true rfl) (hcall) (d2 := d - 1) (ac1 := gC nk1 KK) (az1 := gZ nk1 KK) (by omega) (by omega) (by omega) (fun r2 h2 hq2 => ?_)
    obtain ⟨hx, A2, hmq⟩ := hq2
    dsimp only at hx hmq
    subst hx
    obtain ⟨Iq3, Rq3, Lq3, Sq3, Nq3⟩ := h2
    have hmq3 := hmq
    have hS : ShOK Sq3 := hmq3.2.2.2.2.2.2.2.2.1
    have hR : RfOK Rq3 := hmq3.2.2.2.2.2.2.2.2.2.1
    rw [← hnk1] at hmq3
    refine r_istore_n (pc2 := 5) d_M_cond_4 rfl rfl (Nat.le_of_ble_eq_true rfl) ?_
    refine Run.sub (l2 := [(0, .ref 761), (1, .int (nI (k0 + t)))]) ⟨rfl, rfl, trivial⟩ ?_
    have hloop := ih.2.2.2.2 d _ q _ m _ t hmq3 (by omega) hk3 (by omega) (by omega) (by omega) (by omega) hk7
    rw [← hKK] at hloop
    refine Run.imp (fun x h2 hq => ?_) hloop
    exact PQ.g (k1 := k0 + m.length) (by rw [← hKK, ← hnk1]; exact hc1.2.2) (by rw [← hnk1]; exact hq)
theorem ps_all {B : HS} {A0 : A4} {k0 n : Nat} {T : Nat → Int32} (hn : n ≤ 250) (hk0 : k0 ≤ 1000) : ∀ f, PS B A0 k0 n T f := by
  intro f
  induction f with
  | zero =>
    exact ⟨fun d A p nk ns h _ _ _ _ _ hf _ => by omega, fun d A p nk ns h _ _ _ _ _ hf _ => by omega, fun d A p nk ns h _ _ _ _ _ hf _ => by omega, fun d A p nk ns h a _ _ _ _ _ hf _ _ => by omega, fun d A p nk ns h a _ _ _ _ _ hf _ _ => by omega⟩
  | succ f ih =>
    refine ⟨fun d A p nk ns h hm hp hv hl hc hf hd => ?_, fun d A p nk ns h hm hp hv hl hc hf hd => ?_, fun d A p nk ns h hm hp hv hl hc hf hd => ?_, fun d A p nk ns h a hm hp hv hl hc hf hd ha => ?_, fun d A p nk ns h a hm hp hv hl hc hf hd ha => ?_⟩
    · obtain ⟨I, R, L, sh, N⟩ := h; exact s_M_simple (a := 0) ih hm hn hp hk0 hl hc hv hf hd
    · obtain ⟨I, R, L, sh, N⟩ := h; exact s_M_boths (a := 0) ih hm hn hp hk0 hl hc hv hf hd
    · obtain ⟨I, R, L, sh, N⟩ := h; exact s_M_cond (a := 0) ih hm hn hp hk0 hl hc hv hf hd
    · obtain ⟨I, R, L, sh, N⟩ := h; exact l_M_boths ih hm hn hp hk0 hl hc hv ha hf hd
    · obtain ⟨I, R, L, sh, N⟩ := h; exact l_M_cond ih hm hn hp hk0 hl hc hv ha hf hd
