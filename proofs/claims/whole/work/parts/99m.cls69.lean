/-! THE REFERENCE: rule -/
theorem row_u2 {I K : Nat → Nat → Int32} {a k : Nat} {v : Int32} (h : K = u2 I a k v) : K a = u1 (I a) k v := by
  funext j
  by_cases q : j = k
  · subst q; rw [rd_eq h, u1_i]
  · rw [rd_nk h q, u1_o q]
/-- the parser's end: its heap, and what rule stores behind -/
def MEnd (B : HS) (A0 : A4) (k0 n nk : Nat) (T : Nat → Int32) (q : Nat) (m : List Nd) (h2 : HS) (Z : (Nat → Nat → Int32) → (Nat → Nat → Int32) → Prop) : Prop :=
  ∃ I1 K R1 L1 sh1 N1 A2, MS B A0 k0 n T q (gN nk (k0 + m.length)) m A2 (I1, R1, L1, sh1, N1) ∧ h2 = (K, R1, L1, sh1, N1) ∧ Z I1 K
/-- refused: the tape is empty, a refusal more -/
def ZB (j : Nat) (I K : Nat → Nat → Int32) : Prop := (∀ a i, ¬ (a = 761 ∧ i = 11) → ¬ (a = 765 ∧ i = j) → K a i = I a i) ∧ K 761 11 = nI 0 ∧ K 765 j = I 765 j + nI 1
/-- done: the tape is empty, a rule more -/
def ZD (F r k0 m : Nat) (a : Nat ⊕ (Nat × Nat × Nat)) (I K : Nat → Nat → Int32) : Prop := (∀ b i, ¬ (b = 761 ∧ i = 11) → b ≠ 762 → K b i = I b i) ∧ K 761 11 = nI 0 ∧ K 762 = g_rule1 (I 762) F r k0 m a
/-- what rule of the reference leaves -/
def MUX (B : HS) (A0 : A4) (k0 n nk nF : Nat) (T : Nat → Int32) (f : Int32) (x : Option Value) (h2 : HS) : Prop :=
  if 0 ≤ f.toInt ∧ f.toInt < (nF : Int) then (match rdR T n (B.1 762 (174 + 84 * f.toInt.toNat + 0)).toInt.toNat with
    | (none, q) => x = some (.int ((-500 : Int32) - nI q)) ∧ MEnd B A0 k0 n nk T q (rdC T n).2.2 h2 (ZB 0)
    | (some (ns, a), q) => if (B.1 762 (174 + 84 * f.toInt.toNat + 4)).toInt = 6 then x = some (.int (-36)) ∧ MEnd B A0 k0 n nk T q (rdC T n).2.2 h2 (ZB 4)
      else x = some (.int (nI (B.1 762 (174 + 84 * f.toInt.toNat + 4)).toInt.toNat)) ∧ MEnd B A0 k0 n nk T q (rdC T n).2.2 h2 (ZD f.toInt.toNat (B.1 762 (174 + 84 * f.toInt.toNat + 4)).toInt.toNat k0 ns.length a))
  else x = some (.int (-32)) ∧ ∃ K, h2 = (K, B.2) ∧ ZB 0 B.1 K
theorem rdC_ok {T : Nat → Int32} {n : Nat} : RDok n 0 0 (rdC T n) := rdC_M.2
theorem rdR_m {T : Nat → Int32} {n top q : Nat} {ns : List Nd} {a : Nat ⊕ (Nat × Nat × Nat)} (h : rdR T n top = (some (ns, a), q)) : (rdC T n).2.2 = ns ∧ ∃ t, (rdC T n).1 = some t := by
  unfold rdR at h
  rcases hc : rdC T n with ⟨_ | t, q1, m⟩
  · rw [hc] at h; cases h
  · rw [hc] at h
    dsimp only at h
    rcases ha : anS T n top q1 with ⟨_ | a1, q2⟩
    · rw [ha] at h; cases h
    · rw [ha] at h
      dsimp only at h
      by_cases e : q2 = n
      · rw [if_pos e] at h; cases h; exact ⟨rfl, t, rfl⟩
      · rw [if_neg e] at h; cases h
theorem nmL_pn {T : Nat → Int32} {n m p lo hi e v : Nat} (hp : p ≤ n) (h : nmb T n m p lo hi = some (e, v)) : e ≤ n := (nmb_p hp h).2.1
theorem anS_n {T : Nat → Int32} {n top q q2 : Nat} {a : Nat ⊕ (Nat × Nat × Nat)} (h : anS T n top q = (some a, q2)) : q2 ≤ n := by
  unfold anS at h
  by_cases c : byt T n q = 58
  · have hl := byt_lt (T := T) (n := n) (p := q) (by omega)
    rw [if_pos c] at h
    unfold fxA at h
    rcases ho : nmb T n 1 (q + 1) 0 top with _ | ⟨e, v⟩
    · rw [ho] at h; cases h
    · rw [ho] at h; cases h; exact nmL_pn (by omega) ho
  · rw [if_neg c] at h
    by_cases c2 : byt T n q = 37
    · have hl := byt_lt (T := T) (n := n) (p := q) (by omega)
      rw [if_pos c2] at h
      unfold pxA prt3 at h
      rcases h1 : nmb T n 3 (q + 1) 0 (hiT top 0) with _ | ⟨e, v⟩
      · rw [h1] at h; cases h
      · rw [h1] at h
        dsimp only at h
        have g1 := nmL_pn (by omega) h1
        by_cases c3 : byt T n e ≠ 44
        · rw [if_pos c3] at h; cases h
        · rw [if_neg c3] at h
          have hl2 := byt_lt (T := T) (n := n) (p := e) (by omega)
          rcases h2 : nmb T n 3 (e + 1) 0 (hiT top 1) with _ | ⟨e2, v2⟩
          · rw [h2] at h; cases h
          · rw [h2] at h
            dsimp only at h
            have g2 := nmL_pn (by omega) h2
            by_cases c4 : byt T n e2 ≠ 44
            · rw [if_pos c4] at h; cases h
            · rw [if_neg c4] at h
              have hl3 := byt_lt (T := T) (n := n) (p := e2) (by omega)
              rcases h3 : nmb T n 3 (e2 + 1) 0 (hiT top 2) with _ | ⟨e3, v3⟩
              · rw [h3] at h; cases h
              · rw [h3] at h; cases h; exact nmL_pn (by omega) h3
    · rw [if_neg c2] at h; cases h
theorem c_M_rule {d : Nat} {A0 : A4} {k0 n nk nP nF nt : Nat} {T : Nat → Int32} {f : Int32} {I : Nat → Nat → Int32} {R : Nat → Nat → Option Nat} {L : Nat → Nat → Int64} {sh : Nat → Nat × Nat} {N : Nat} (hS : ShOK sh) (hR : RfOK R) (hW : WFA (I 762) nP nF nt) (hm0 : ∀ K, K = u2 I 761 12 (nI 0) → MS (I, R, L, sh, N) A0 k0 n T 0 nk [] A0 (K, R, L, sh, N)) (hn : n ≤ 250) (hk0 : k0 ≤ 1000) (hcap : k0 + n ≤ 2 * (nk + 1)) (hd : 3 * n + 20 ≤ d) : Mt mi_M_rule d (gC nk (k0 + (rdC T n).2.2.length)) (gZ nk (k0 + (rdC T n).2.2.length)) [.ref 761, .int f] (I, R, L, sh, N) (MUX (I, R, L, sh, N) A0 k0 n nk nF T f) := by
  obtain ⟨hPc, hP24, hFc, hF12, hWF, hWP⟩ := id hW
  refine Mt.of pn_M (Nat.le_of_ble_eq_true rfl) ?_
  show Run mi_M_rule d _ _ 0 [(0, .ref 761), (1, .int f)] [] (I, R, L, sh, N) _
  refine r_aload_n (x := some 761) (pc2 := 1) d_M_rule_0 rfl rfl ?_
  refine r_iload_n (pc2 := 2) d_M_rule_1 rfl rfl ?_
  refine q_callv (M2 := mi_M_isFeature) (pc2 := 5) d_M_rule_2 rfl k_M_72 cm_M_isFeature cv_M_isFeature (sh_761 hS) (by decide) rfl rfl rfl (Nat.le_of_ble_eq_true rfl) (c_M_isFeature (I := I) (nF := nF) (f := f) hS hR (hFc) hF12 (by omega)) (d2 := d - 1) (by omega) (Nat.le_of_eq (Nat.zero_add _)) (Nat.le_of_eq (Nat.zero_add _)) ?_
  refine q_bif_ne (tgt := 20) (pc2 := 8) d_M_rule_5 rfl rfl (fun c1 => ?_) (fun c1 => ?_)
  · obtain ⟨fN, hfN, rfl, efN⟩ := nat_of c1
    obtain ⟨tpfN, klfN, skfN, fbfN, nRfN, nNfN, nOfN, frfN, tofN, ⟨a0fN, b0fN, cc0fN, dd0fN⟩, ⟨a1fN, b1fN, cc1fN, dd1fN⟩, ⟨a2fN, b2fN, cc2fN, dd2fN⟩, ⟨a3fN, b3fN, cc3fN, dd3fN⟩, ⟨a4fN, b4fN, cc4fN, dd4fN⟩, ⟨a5fN, b5fN, cc5fN, dd5fN⟩, ⟨a6fN, b6fN, cc6fN, dd6fN⟩, ⟨a8fN, b8fN, cc8fN, dd8fN⟩, ⟨a9fN, b9fN, cc9fN, dd9fN⟩⟩ := wfn (hWF fN hfN)
    obtain ⟨-, -, -, -, -, -, -, w7fN, -, -, wNfN, wRfN, wKfN, wOfN⟩ := hWF fN hfN
    have hrd := rdC_ok (T := T) (n := n)
    rcases hc : rdC T n with ⟨oc, qc, mc⟩
    rw [hc] at hrd
    obtain ⟨-, hrd1, hrd2, -, hrd3, hrd4⟩ := hrd
    dsimp only at hrd1 hrd2 hrd3 hrd4
    have hnkl := gN_l (nk := nk) (k := k0 + mc.length)
    cases oc with
    | none =>
      dsimp only
      refine r_aload_n (x := some 761) (pc2 := 21) d_M_rule_20 rfl rfl ?_
      refine r_iconst (v := nI 0) (pc2 := 22) d_M_rule_21 rfl (by decide) ?_
      refine q_putI (pc2 := 25) d_M_rule_22 rfl k_M_112 (Or.inl rfl) (sh_761 hS) (Or.inl rfl) (fun I2 hI2 => ?_)
      have hm1 := hm0 _ hI2
      obtain ⟨-, -, -, -, -, -, -, -, hS, hR, -⟩ := id hm1
      dsimp only at hS hR
      refine r_aload_n (x := some 761) (pc2 := 26) d_M_rule_25 rfl rfl ?_
      have hcall := (ps_all (B := (I, R, L, sh, N)) (A0 := A0) (k0 := k0) (n := n) (T := T) hn hk0 (4 * n + 4)).2.2.1 (d - 1) _ 0 nk [] _ hm1 (Nat.zero_le _) NV.nil (Nat.zero_le _) hcap (by omega) (by omega)
      rw [show rdP T n (4 * n + 4) 3 0 0 [] = rdC T n from rfl, hc] at hcall
      dsimp only at hcall
      refine r_callv (M2 := mi_M_cond) (pc2 := 29) (as := []) (rest := []) d_M_rule_26 rfl k_M_136 cm_M_cond cv_M_cond (sh_761 hS) (by decide) rfl rfl rfl (Nat.le_of_ble_eq_true rfl) (hcall) (d2 := d - 1) (ac1 := 0) (az1 := 0) (by omega) (by omega) (by omega) (fun r2 h2 hq2 => ?_)
      obtain ⟨hx, A2, hmq⟩ := hq2
      dsimp only at hx hmq
      subst hx
      obtain ⟨Iq3, Rq3, Lq3, Sq3, Nq3⟩ := h2
      have hmq3 := hmq
      have hS : ShOK Sq3 := hmq3.2.2.2.2.2.2.2.2.1
      have hR : RfOK Rq3 := hmq3.2.2.2.2.2.2.2.2.2.1
      refine r_istore_n (pc2 := 30) d_M_rule_29 rfl rfl (Nat.le_of_ble_eq_true rfl) ?_
      refine r_iload_n (pc2 := 31) d_M_rule_30 rfl rfl ?_
      refine q_if_lt (tgt := 57) (A := (-1 : Int)) (pc2 := 34) d_M_rule_31 rfl rfl (by decide) (fun c4 => ?_) (fun c4 => ?_)
      rotate_left
      · exfalso; omega
      refine r_iconst (v := nI 0) (pc2 := 58) d_M_rule_57 rfl (by decide) ?_
      refine r_istore_n (pc2 := 59) d_M_rule_58 rfl rfl (Nat.le_of_ble_eq_true rfl) ?_
      refine r_aload_n (x := some 761) (pc2 := 60) d_M_rule_59 rfl rfl ?_
      refine r_iconst (v := nI 0) (pc2 := 61) d_M_rule_60 rfl (by decide) ?_
      refine q_putI (pc2 := 64) d_M_rule_61 rfl k_M_109 (Or.inl rfl) (sh_761 hS) (Or.inl rfl) (fun I5 hI5 => ?_)
      refine r_iload_n (pc2 := 65) d_M_rule_64 rfl rfl ?_
      refine q_if_ne (tgt := 87) (A := (0 : Int)) (pc2 := 68) d_M_rule_65 rfl rfl (nI_toInt (by omega)) (fun c6 => ?_) (fun c6 => ?_)
      · exfalso; omega
      refine r_aload_n (x := some 761) (pc2 := 69) d_M_rule_68 rfl rfl ?_
      refine q_getR (x := some 765) (pc2 := 72) d_M_rule_69 rfl k_M_19 rfl (sh_761 hS) (rf_761_4 hR) ?_
      refine r_iconst (v := nI 0) (pc2 := 73) d_M_rule_72 rfl (by decide) ?_
      refine r_dup2 (pc2 := 74) d_M_rule_73 rfl rfl rfl ?_
      refine q_iaload (q := 0) (x := Iq3 765 0) (pc2 := 75) d_M_rule_74 rfl (sh_765 hS) (nI_toInt (by omega)) (by omega) (rd_ne hI5 (by decide)) ?_
      refine r_iconst (v := nI 1) (pc2 := 76) d_M_rule_75 rfl (by decide) ?_
      refine r_iadd (pc2 := 77) d_M_rule_76 rfl ?_
      refine q_iastore (q := 0) (pc2 := 78) d_M_rule_77 rfl (sh_765 hS) (nI_toInt (by omega)) (by omega) (fun I7 hI7 => ?_)
      refine r_sipush (v := (-500 : Int32)) (pc2 := 81) d_M_rule_78 rfl (by decide) ?_
      refine r_aload_n (x := some 761) (pc2 := 82) d_M_rule_81 rfl rfl ?_
      refine q_getI (x := nI qc) (pc2 := 85) d_M_rule_82 rfl k_M_112 (by decide) (sh_761 hS) ((rd_ne hI7 (by decide)).trans ((rd_nk hI5 (by decide)).trans (hmq3.1.2.1))) ?_
      refine r_isub (pc2 := 86) d_M_rule_85 rfl ?_
      refine Run.ret (some (.int (((-500 : Int32)) - (nI qc)))) d_M_rule_86 ⟨_, rfl⟩ ?_
      unfold MUX
      have e_ : rdR T n tpfN = (none, qc) := rdR_n hc
      rw [if_pos (show 0 ≤ (nI fN).toInt ∧ (nI fN).toInt < (nF : Int) by omega)]
      dsimp only
      rw [show (I 762 (174 + 84 * (nI fN).toInt.toNat + 0)).toInt.toNat = tpfN from by rw [efN, Int.toNat_natCast, b0fN, Int.toNat_natCast], e_]
      dsimp only
      refine ⟨rfl, _, _, _, _, _, _, A2, by rw [hc]; exact hmq3, rfl, fun a i q1 q2 => (rd_nn hI7 q2).trans (rd_nn hI5 q1), (rd_ne hI7 (by decide)).trans (rd_eq hI5), (rd_eq hI7).trans (by first | rfl | (rw [rd_ne hI5 (by decide)]))⟩
    | some tc =>
      dsimp only
      have hrd5 := hrd4 tc rfl
      have hlast := rdC_last hc
      refine r_aload_n (x := some 761) (pc2 := 21) d_M_rule_20 rfl rfl ?_
      refine r_iconst (v := nI 0) (pc2 := 22) d_M_rule_21 rfl (by decide) ?_
      refine q_putI (pc2 := 25) d_M_rule_22 rfl k_M_112 (Or.inl rfl) (sh_761 hS) (Or.inl rfl) (fun I8 hI8 => ?_)
      have hm1 := hm0 _ hI8
      obtain ⟨-, -, -, -, -, -, -, -, hS, hR, -⟩ := id hm1
      dsimp only at hS hR
      refine r_aload_n (x := some 761) (pc2 := 26) d_M_rule_25 rfl rfl ?_
      have hcall := (ps_all (B := (I, R, L, sh, N)) (A0 := A0) (k0 := k0) (n := n) (T := T) hn hk0 (4 * n + 4)).2.2.1 (d - 1) _ 0 nk [] _ hm1 (Nat.zero_le _) NV.nil (Nat.zero_le _) hcap (by omega) (by omega)
      rw [show rdP T n (4 * n + 4) 3 0 0 [] = rdC T n from rfl, hc] at hcall
      dsimp only at hcall
      refine r_callv (M2 := mi_M_cond) (pc2 := 29) (as := []) (rest := []) d_M_rule_26 rfl k_M_136 cm_M_cond cv_M_cond (sh_761 hS) (by decide) rfl rfl rfl (Nat.le_of_ble_eq_true rfl) (hcall) (d2 := d - 1) (ac1 := 0) (az1 := 0) (by omega) (by omega) (by omega) (fun r2 h2 hq2 => ?_)
      obtain ⟨hx, A2, hmq⟩ := hq2
      dsimp only at hx hmq
      subst hx
      obtain ⟨Iq9, Rq9, Lq9, Sq9, Nq9⟩ := h2
      have hmq9 := hmq
      have hS : ShOK Sq9 := hmq9.2.2.2.2.2.2.2.2.1
      have hR : RfOK Rq9 := hmq9.2.2.2.2.2.2.2.2.2.1
      refine r_istore_n (pc2 := 30) d_M_rule_29 rfl rfl (Nat.le_of_ble_eq_true rfl) ?_
      refine r_iload_n (pc2 := 31) d_M_rule_30 rfl rfl ?_
      refine q_if_lt (tgt := 57) (A := ((k0 + tc : Nat) : Int)) (pc2 := 34) d_M_rule_31 rfl rfl (nI_toInt (by omega)) (fun c10 => ?_) (fun c10 => ?_)
      · exfalso; omega
      refine r_aload_n (x := some 761) (pc2 := 35) d_M_rule_34 rfl rfl ?_
      refine r_iload_n (pc2 := 36) d_M_rule_35 rfl rfl ?_
      refine r_callv (M2 := mi_M_isAnswer) (pc2 := 39) d_M_rule_36 rfl k_M_154 cm_M_isAnswer cv_M_isAnswer (sh_761 hS) (by decide) rfl rfl rfl (Nat.le_of_ble_eq_true rfl) (c_M_isAnswer hmq9 hn (by omega) hk0 (F := fN) (top := tpfN) (by omega) (by omega) a0fN (by omega)) (d2 := d - 1) (by omega) (Nat.le_of_eq (Nat.zero_add _)) (Nat.le_of_eq (Nat.zero_add _)) (fun r2 h2 hq2 => ?_)
      obtain ⟨Iq11, rfl, hxq11⟩ := hq2
      rcases hoq11 : anS T n tpfN qc with ⟨oa, qa⟩
      rw [hoq11] at hxq11
      cases oa with
      | none =>
        obtain ⟨rfl, hmq11⟩ := hxq11
        refine q_if_eq (tgt := 57) (A := (0 : Int)) (pc2 := 42) d_M_rule_39 rfl rfl (nI_toInt (by omega)) (fun c12 => ?_) (fun c12 => ?_)
        rotate_left
        · exfalso; omega
        refine r_iconst (v := nI 0) (pc2 := 58) d_M_rule_57 rfl (by decide) ?_
        refine r_istore_n (pc2 := 59) d_M_rule_58 rfl rfl (Nat.le_of_ble_eq_true rfl) ?_
        refine r_aload_n (x := some 761) (pc2 := 60) d_M_rule_59 rfl rfl ?_
        refine r_iconst (v := nI 0) (pc2 := 61) d_M_rule_60 rfl (by decide) ?_
        refine q_putI (pc2 := 64) d_M_rule_61 rfl k_M_109 (Or.inl rfl) (sh_761 hS) (Or.inl rfl) (fun I13 hI13 => ?_)
        refine r_iload_n (pc2 := 65) d_M_rule_64 rfl rfl ?_
        refine q_if_ne (tgt := 87) (A := (0 : Int)) (pc2 := 68) d_M_rule_65 rfl rfl (nI_toInt (by omega)) (fun c14 => ?_) (fun c14 => ?_)
        · exfalso; omega
        refine r_aload_n (x := some 761) (pc2 := 69) d_M_rule_68 rfl rfl ?_
        refine q_getR (x := some 765) (pc2 := 72) d_M_rule_69 rfl k_M_19 rfl (sh_761 hS) (rf_761_4 hR) ?_
        refine r_iconst (v := nI 0) (pc2 := 73) d_M_rule_72 rfl (by decide) ?_
        refine r_dup2 (pc2 := 74) d_M_rule_73 rfl rfl rfl ?_
        refine q_iaload (q := 0) (x := Iq11 765 0) (pc2 := 75) d_M_rule_74 rfl (sh_765 hS) (nI_toInt (by omega)) (by omega) (rd_ne hI13 (by decide)) ?_
        refine r_iconst (v := nI 1) (pc2 := 76) d_M_rule_75 rfl (by decide) ?_
        refine r_iadd (pc2 := 77) d_M_rule_76 rfl ?_
        refine q_iastore (q := 0) (pc2 := 78) d_M_rule_77 rfl (sh_765 hS) (nI_toInt (by omega)) (by omega) (fun I15 hI15 => ?_)
        refine r_sipush (v := (-500 : Int32)) (pc2 := 81) d_M_rule_78 rfl (by decide) ?_
        refine r_aload_n (x := some 761) (pc2 := 82) d_M_rule_81 rfl rfl ?_
        refine q_getI (x := nI qa) (pc2 := 85) d_M_rule_82 rfl k_M_112 (by decide) (sh_761 hS) ((rd_ne hI15 (by decide)).trans ((rd_nk hI13 (by decide)).trans (hmq11.1.2.1))) ?_
        refine r_isub (pc2 := 86) d_M_rule_85 rfl ?_
        refine Run.ret (some (.int (((-500 : Int32)) - (nI qa)))) d_M_rule_86 ⟨_, rfl⟩ ?_
        unfold MUX
        have e_ : rdR T n tpfN = (none, qa) := rdR_a hc hoq11
        rw [if_pos (show 0 ≤ (nI fN).toInt ∧ (nI fN).toInt < (nF : Int) by omega)]
        dsimp only
        rw [show (I 762 (174 + 84 * (nI fN).toInt.toNat + 0)).toInt.toNat = tpfN from by rw [efN, Int.toNat_natCast, b0fN, Int.toNat_natCast], e_]
        dsimp only
        refine ⟨rfl, _, _, _, _, _, _, A2, by rw [hc]; exact hmq11, rfl, fun a i q1 q2 => (rd_nn hI15 q2).trans (rd_nn hI13 q1), (rd_ne hI15 (by decide)).trans (rd_eq hI13), (rd_eq hI15).trans (by first | rfl | (rw [rd_ne hI13 (by decide)]))⟩
      | some aa =>
        obtain ⟨rfl, hmq11, hsr⟩ := hxq11
        have hqa := anS_n hoq11
        refine q_if_eq (tgt := 57) (A := (1 : Int)) (pc2 := 42) d_M_rule_39 rfl rfl (nI_toInt (by omega)) (fun c16 => ?_) (fun c16 => ?_)
        · exfalso; omega
        refine r_aload_n (x := some 761) (pc2 := 43) d_M_rule_42 rfl rfl ?_
        refine q_getI (x := nI qa) (pc2 := 46) d_M_rule_43 rfl k_M_112 (by decide) (sh_761 hS) hmq11.1.2.1 ?_
        refine r_aload_n (x := some 761) (pc2 := 47) d_M_rule_46 rfl rfl ?_
        refine q_getI (x := nI n) (pc2 := 50) d_M_rule_47 rfl k_M_109 (by decide) (sh_761 hS) hmq11.1.1 ?_
        refine q_icmp_ne (tgt := 57) (A := ((qa : Nat) : Int)) (B := ((n : Nat) : Int)) (pc2 := 53) d_M_rule_50 rfl rfl (nI_toInt (by omega)) (nI_toInt (by omega)) (fun c17 => ?_) (fun c17 => ?_)
        · refine r_iconst (v := nI 0) (pc2 := 58) d_M_rule_57 rfl (by decide) ?_
          refine r_istore_n (pc2 := 59) d_M_rule_58 rfl rfl (Nat.le_of_ble_eq_true rfl) ?_
          refine r_aload_n (x := some 761) (pc2 := 60) d_M_rule_59 rfl rfl ?_
          refine r_iconst (v := nI 0) (pc2 := 61) d_M_rule_60 rfl (by decide) ?_
          refine q_putI (pc2 := 64) d_M_rule_61 rfl k_M_109 (Or.inl rfl) (sh_761 hS) (Or.inl rfl) (fun I18 hI18 => ?_)
          refine r_iload_n (pc2 := 65) d_M_rule_64 rfl rfl ?_
          refine q_if_ne (tgt := 87) (A := (0 : Int)) (pc2 := 68) d_M_rule_65 rfl rfl (nI_toInt (by omega)) (fun c19 => ?_) (fun c19 => ?_)
          · exfalso; omega
          refine r_aload_n (x := some 761) (pc2 := 69) d_M_rule_68 rfl rfl ?_
          refine q_getR (x := some 765) (pc2 := 72) d_M_rule_69 rfl k_M_19 rfl (sh_761 hS) (rf_761_4 hR) ?_
          refine r_iconst (v := nI 0) (pc2 := 73) d_M_rule_72 rfl (by decide) ?_
          refine r_dup2 (pc2 := 74) d_M_rule_73 rfl rfl rfl ?_
          refine q_iaload (q := 0) (x := Iq11 765 0) (pc2 := 75) d_M_rule_74 rfl (sh_765 hS) (nI_toInt (by omega)) (by omega) (rd_ne hI18 (by decide)) ?_
          refine r_iconst (v := nI 1) (pc2 := 76) d_M_rule_75 rfl (by decide) ?_
          refine r_iadd (pc2 := 77) d_M_rule_76 rfl ?_
          refine q_iastore (q := 0) (pc2 := 78) d_M_rule_77 rfl (sh_765 hS) (nI_toInt (by omega)) (by omega) (fun I20 hI20 => ?_)
          refine r_sipush (v := (-500 : Int32)) (pc2 := 81) d_M_rule_78 rfl (by decide) ?_
          refine r_aload_n (x := some 761) (pc2 := 82) d_M_rule_81 rfl rfl ?_
          refine q_getI (x := nI qa) (pc2 := 85) d_M_rule_82 rfl k_M_112 (by decide) (sh_761 hS) ((rd_ne hI20 (by decide)).trans ((rd_nk hI18 (by decide)).trans (hmq11.1.2.1))) ?_
          refine r_isub (pc2 := 86) d_M_rule_85 rfl ?_
          refine Run.ret (some (.int (((-500 : Int32)) - (nI qa)))) d_M_rule_86 ⟨_, rfl⟩ ?_
          unfold MUX
          have e_ : rdR T n tpfN = (none, qa) := rdR_e hc hoq11 (by omega)
          rw [if_pos (show 0 ≤ (nI fN).toInt ∧ (nI fN).toInt < (nF : Int) by omega)]
          dsimp only
          rw [show (I 762 (174 + 84 * (nI fN).toInt.toNat + 0)).toInt.toNat = tpfN from by rw [efN, Int.toNat_natCast, b0fN, Int.toNat_natCast], e_]
          dsimp only
          refine ⟨rfl, _, _, _, _, _, _, A2, by rw [hc]; exact hmq11, rfl, fun a i q1 q2 => (rd_nn hI20 q2).trans (rd_nn hI18 q1), (rd_ne hI20 (by decide)).trans (rd_eq hI18), (rd_eq hI20).trans (by first | rfl | (rw [rd_ne hI18 (by decide)]))⟩
        · refine r_iconst (v := nI 1) (pc2 := 54) d_M_rule_53 rfl (by decide) ?_
          refine r_goto (tgt := 58) d_M_rule_54 rfl ?_
          refine r_istore_n (pc2 := 59) d_M_rule_58 rfl rfl (Nat.le_of_ble_eq_true rfl) ?_
          refine r_aload_n (x := some 761) (pc2 := 60) d_M_rule_59 rfl rfl ?_
          refine r_iconst (v := nI 0) (pc2 := 61) d_M_rule_60 rfl (by decide) ?_
          refine q_putI (pc2 := 64) d_M_rule_61 rfl k_M_109 (Or.inl rfl) (sh_761 hS) (Or.inl rfl) (fun I21 hI21 => ?_)
          refine r_iload_n (pc2 := 65) d_M_rule_64 rfl rfl ?_
          refine q_if_ne (tgt := 87) (A := (1 : Int)) (pc2 := 68) d_M_rule_65 rfl rfl (nI_toInt (by omega)) (fun c22 => ?_) (fun c22 => ?_)
          rotate_left
          · exfalso; omega
          refine r_aload_n (x := some 761) (pc2 := 88) d_M_rule_87 rfl rfl ?_
          refine r_iload_n (pc2 := 89) d_M_rule_88 rfl rfl ?_
          refine r_iconst (v := nI 4) (pc2 := 90) d_M_rule_89 rfl (by decide) ?_
          refine q_callv (M2 := mi_M_of) (pc2 := 93) d_M_rule_90 rfl k_M_76 cm_M_of cv_M_of (sh_761 hS) (by decide) rfl rfl rfl (Nat.le_of_ble_eq_true rfl) (c_M_of (I := I21) (F := fN) (W := 4) hS hR (by omega)) (d2 := d - 1) (by omega) (Nat.le_of_eq (Nat.zero_add _)) (Nat.le_of_eq (Nat.zero_add _)) ?_
          refine q_top (y := nI nRfN) ((rd_ne hI21 (by decide)).trans ((MS.row hmq11 (a := 762) (by decide) _).trans a4fN)) ?_
          refine r_istore (pc2 := 95) d_M_rule_93 rfl (Nat.le_of_ble_eq_true rfl) ?_
          refine r_iload (pc2 := 97) d_M_rule_95 rfl rfl ?_
          refine r_bipush (v := nI 6) (pc2 := 99) d_M_rule_97 rfl (by decide) ?_
          refine q_icmp_ne (tgt := 109) (A := ((nRfN : Nat) : Int)) (B := (6 : Int)) (pc2 := 102) d_M_rule_99 rfl rfl (nI_toInt (by omega)) (nI_toInt (by omega)) (fun c23 => ?_) (fun c23 => ?_)
          · refine r_aload_n (x := some 761) (pc2 := 110) d_M_rule_109 rfl rfl ?_
            refine q_getR (x := some 762) (pc2 := 113) d_M_rule_110 rfl k_M_9 rfl (sh_761 hS) (rf_761_0 hR) ?_
            refine r_iload_n (pc2 := 114) d_M_rule_113 rfl rfl ?_
            refine r_iload (pc2 := 116) d_M_rule_114 rfl rfl ?_
            refine r_iconst (v := nI 0) (pc2 := 117) d_M_rule_116 rfl (by decide) ?_
            refine q_calls (M2 := mi_M_ruleAt) (pc2 := 120) d_M_rule_117 rfl k_M_80 cm_M_ruleAt cs_M_ruleAt rfl rfl (Nat.le_of_ble_eq_true rfl) (c_M_ruleAt (F := fN) (r := nRfN) (k := 0)) (d2 := d - 1) (by omega) (Nat.le_of_eq (Nat.zero_add _)) (Nat.le_of_eq (Nat.zero_add _)) ?_
            refine r_iload_n (pc2 := 121) d_M_rule_120 rfl rfl ?_
            refine q_iastore (q := 174 + 84 * fN + 60 + 4 * nRfN + 0) (pc2 := 122) d_M_rule_121 rfl (sh_762 hS) (nI_toInt (by omega)) (by omega) (fun I24 hI24 => ?_)
            refine r_iconst (v := nI 0) (pc2 := 123) d_M_rule_122 rfl (by decide) ?_
            refine r_istore (pc2 := 125) d_M_rule_123 rfl (Nat.le_of_ble_eq_true rfl) ?_
            refine r_iload (pc2 := 127) d_M_rule_125 rfl rfl ?_
            refine r_iconst (v := nI 3) (pc2 := 128) d_M_rule_127 rfl (by decide) ?_
            refine q_icmp_ge (tgt := 159) (A := (0 : Int)) (B := (3 : Int)) (pc2 := 131) d_M_rule_128 rfl rfl (nI_toInt (by omega)) (nI_toInt (by omega)) (fun c25 => ?_) (fun c25 => ?_)
            · exfalso; omega
            refine r_aload_n (x := some 761) (pc2 := 132) d_M_rule_131 rfl rfl ?_
            refine q_getR (x := some 762) (pc2 := 135) d_M_rule_132 rfl k_M_9 rfl (sh_761 hS) (rf_761_0 hR) ?_
            refine r_iload_n (pc2 := 136) d_M_rule_135 rfl rfl ?_
            refine r_iload (pc2 := 138) d_M_rule_136 rfl rfl ?_
            refine r_iconst (v := nI 1) (pc2 := 139) d_M_rule_138 rfl (by decide) ?_
            refine r_iload (pc2 := 141) d_M_rule_139 rfl rfl ?_
            refine q_iaddN (pc2 := 142) d_M_rule_141 rfl ?_
            refine q_calls (M2 := mi_M_ruleAt) (pc2 := 145) d_M_rule_142 rfl k_M_80 cm_M_ruleAt cs_M_ruleAt rfl rfl (Nat.le_of_ble_eq_true rfl) (c_M_ruleAt (F := fN) (r := nRfN) (k := 1)) (d2 := d - 1) (by omega) (Nat.le_of_eq (Nat.zero_add _)) (Nat.le_of_eq (Nat.zero_add _)) ?_
            refine r_aload_n (x := some 761) (pc2 := 146) d_M_rule_145 rfl rfl ?_
            refine q_getR (x := some 771) (pc2 := 149) d_M_rule_146 rfl k_M_37 rfl (sh_761 hS) (rf_761_14 hR) ?_
            refine r_iload (pc2 := 151) d_M_rule_149 rfl rfl ?_
            refine q_iaload (q := 0) (x := shO aa 0) (pc2 := 152) d_M_rule_151 rfl (sh_771 hS) (nI_toInt (by omega)) (by omega) ((rd_ne hI24 (by decide)).trans ((rd_ne hI21 (by decide)).trans (hsr 0 (by decide)))) ?_
            refine q_iastore (q := 174 + 84 * fN + 60 + 4 * nRfN + 1) (pc2 := 153) d_M_rule_152 rfl (sh_762 hS) (nI_toInt (by omega)) (by omega) (fun I26 hI26 => ?_)
            refine q_iinc (b := 1) (pc2 := 156) d_M_rule_153 rfl rfl (by decide) (Nat.le_of_ble_eq_true rfl) ?_
            refine r_goto (tgt := 125) d_M_rule_156 rfl ?_
            refine r_iload (pc2 := 127) d_M_rule_125 rfl rfl ?_
            refine r_iconst (v := nI 3) (pc2 := 128) d_M_rule_127 rfl (by decide) ?_
            refine q_icmp_ge (tgt := 159) (A := (1 : Int)) (B := (3 : Int)) (pc2 := 131) d_M_rule_128 rfl rfl (nI_toInt (by omega)) (nI_toInt (by omega)) (fun c27 => ?_) (fun c27 => ?_)
            · exfalso; omega
            refine r_aload_n (x := some 761) (pc2 := 132) d_M_rule_131 rfl rfl ?_
            refine q_getR (x := some 762) (pc2 := 135) d_M_rule_132 rfl k_M_9 rfl (sh_761 hS) (rf_761_0 hR) ?_
            refine r_iload_n (pc2 := 136) d_M_rule_135 rfl rfl ?_
            refine r_iload (pc2 := 138) d_M_rule_136 rfl rfl ?_
            refine r_iconst (v := nI 1) (pc2 := 139) d_M_rule_138 rfl (by decide) ?_
            refine r_iload (pc2 := 141) d_M_rule_139 rfl rfl ?_
            refine q_iaddN (pc2 := 142) d_M_rule_141 rfl ?_
            refine q_calls (M2 := mi_M_ruleAt) (pc2 := 145) d_M_rule_142 rfl k_M_80 cm_M_ruleAt cs_M_ruleAt rfl rfl (Nat.le_of_ble_eq_true rfl) (c_M_ruleAt (F := fN) (r := nRfN) (k := 2)) (d2 := d - 1) (by omega) (Nat.le_of_eq (Nat.zero_add _)) (Nat.le_of_eq (Nat.zero_add _)) ?_
            refine r_aload_n (x := some 761) (pc2 := 146) d_M_rule_145 rfl rfl ?_
            refine q_getR (x := some 771) (pc2 := 149) d_M_rule_146 rfl k_M_37 rfl (sh_761 hS) (rf_761_14 hR) ?_
            refine r_iload (pc2 := 151) d_M_rule_149 rfl rfl ?_
            refine q_iaload (q := 1) (x := shO aa 1) (pc2 := 152) d_M_rule_151 rfl (sh_771 hS) (nI_toInt (by omega)) (by omega) ((rd_ne hI26 (by decide)).trans ((rd_ne hI24 (by decide)).trans ((rd_ne hI21 (by decide)).trans (hsr 1 (by decide))))) ?_
            refine q_iastore (q := 174 + 84 * fN + 60 + 4 * nRfN + 2) (pc2 := 153) d_M_rule_152 rfl (sh_762 hS) (nI_toInt (by omega)) (by omega) (fun I28 hI28 => ?_)
            refine q_iinc (b := 1) (pc2 := 156) d_M_rule_153 rfl rfl (by decide) (Nat.le_of_ble_eq_true rfl) ?_
            refine r_goto (tgt := 125) d_M_rule_156 rfl ?_
            refine r_iload (pc2 := 127) d_M_rule_125 rfl rfl ?_
            refine r_iconst (v := nI 3) (pc2 := 128) d_M_rule_127 rfl (by decide) ?_
            refine q_icmp_ge (tgt := 159) (A := (2 : Int)) (B := (3 : Int)) (pc2 := 131) d_M_rule_128 rfl rfl (nI_toInt (by omega)) (nI_toInt (by omega)) (fun c29 => ?_) (fun c29 => ?_)
            · exfalso; omega
            refine r_aload_n (x := some 761) (pc2 := 132) d_M_rule_131 rfl rfl ?_
            refine q_getR (x := some 762) (pc2 := 135) d_M_rule_132 rfl k_M_9 rfl (sh_761 hS) (rf_761_0 hR) ?_
            refine r_iload_n (pc2 := 136) d_M_rule_135 rfl rfl ?_
            refine r_iload (pc2 := 138) d_M_rule_136 rfl rfl ?_
            refine r_iconst (v := nI 1) (pc2 := 139) d_M_rule_138 rfl (by decide) ?_
            refine r_iload (pc2 := 141) d_M_rule_139 rfl rfl ?_
            refine q_iaddN (pc2 := 142) d_M_rule_141 rfl ?_
            refine q_calls (M2 := mi_M_ruleAt) (pc2 := 145) d_M_rule_142 rfl k_M_80 cm_M_ruleAt cs_M_ruleAt rfl rfl (Nat.le_of_ble_eq_true rfl) (c_M_ruleAt (F := fN) (r := nRfN) (k := 3)) (d2 := d - 1) (by omega) (Nat.le_of_eq (Nat.zero_add _)) (Nat.le_of_eq (Nat.zero_add _)) ?_
            refine r_aload_n (x := some 761) (pc2 := 146) d_M_rule_145 rfl rfl ?_
            refine q_getR (x := some 771) (pc2 := 149) d_M_rule_146 rfl k_M_37 rfl (sh_761 hS) (rf_761_14 hR) ?_
            refine r_iload (pc2 := 151) d_M_rule_149 rfl rfl ?_
            refine q_iaload (q := 2) (x := shO aa 2) (pc2 := 152) d_M_rule_151 rfl (sh_771 hS) (nI_toInt (by omega)) (by omega) ((rd_ne hI28 (by decide)).trans ((rd_ne hI26 (by decide)).trans ((rd_ne hI24 (by decide)).trans ((rd_ne hI21 (by decide)).trans (hsr 2 (by decide)))))) ?_
            refine q_iastore (q := 174 + 84 * fN + 60 + 4 * nRfN + 3) (pc2 := 153) d_M_rule_152 rfl (sh_762 hS) (nI_toInt (by omega)) (by omega) (fun I30 hI30 => ?_)
            refine q_iinc (b := 1) (pc2 := 156) d_M_rule_153 rfl rfl (by decide) (Nat.le_of_ble_eq_true rfl) ?_
            refine r_goto (tgt := 125) d_M_rule_156 rfl ?_
            refine r_iload (pc2 := 127) d_M_rule_125 rfl rfl ?_
            refine r_iconst (v := nI 3) (pc2 := 128) d_M_rule_127 rfl (by decide) ?_
            refine q_icmp_ge (tgt := 159) (A := (3 : Int)) (B := (3 : Int)) (pc2 := 131) d_M_rule_128 rfl rfl (nI_toInt (by omega)) (nI_toInt (by omega)) (fun c31 => ?_) (fun c31 => ?_)
            rotate_left
            · exfalso; omega
            refine r_aload_n (x := some 761) (pc2 := 160) d_M_rule_159 rfl rfl ?_
            refine r_iload_n (pc2 := 161) d_M_rule_160 rfl rfl ?_
            refine r_iconst (v := nI 4) (pc2 := 162) d_M_rule_161 rfl (by decide) ?_
            refine r_iload (pc2 := 164) d_M_rule_162 rfl rfl ?_
            refine r_iconst (v := nI 1) (pc2 := 165) d_M_rule_164 rfl (by decide) ?_
            refine q_iaddN (pc2 := 166) d_M_rule_165 rfl ?_
            refine q_callvV (M2 := mi_M_is) (pc2 := 169) d_M_rule_166 rfl k_M_157 cm_M_is cv_M_is (sh_761 hS) (by decide) rfl rfl rfl (Nat.le_of_ble_eq_true rfl) (c_M_is (I := I30) (F := fN) (W := 4) (v := nI (nRfN + 1)) hS hR (by omega)) (d2 := d - 1) (by omega) (Nat.le_of_eq (Nat.zero_add _)) (Nat.le_of_eq (Nat.zero_add _)) ?_
            obtain ⟨I32, hI32⟩ : ∃ x, x = u2 I30 762 (174 + 84 * fN + 4) (nI (nRfN + 1)) := ⟨_, rfl⟩
            rw [← hI32]
            refine r_iload (pc2 := 171) d_M_rule_169 rfl rfl ?_
            refine Run.ret (some (.int (nI nRfN))) d_M_rule_171 ⟨_, rfl⟩ ?_
            unfold MUX
            have e_ : rdR T n tpfN = (some (mc, aa), qa) := rdR_s hc hoq11 (by omega)
            rw [if_pos (show 0 ≤ (nI fN).toInt ∧ (nI fN).toInt < (nF : Int) by omega)]
            dsimp only
            rw [show (I 762 (174 + 84 * (nI fN).toInt.toNat + 0)).toInt.toNat = tpfN from by rw [efN, Int.toNat_natCast, b0fN, Int.toNat_natCast], e_]
            dsimp only
            rw [show (I 762 (174 + 84 * (nI fN).toInt.toNat + 4)).toInt = (nRfN : Int) from by rw [efN, Int.toNat_natCast, b4fN], if_neg (by omega), efN, Int.toNat_natCast, Int.toNat_natCast]
            refine ⟨rfl, _, _, _, _, _, _, A2, by rw [hc]; exact hmq11, rfl, fun b i q1 q2 => (rd_ne hI32 q2).trans ((rd_ne hI30 q2).trans ((rd_ne hI28 q2).trans ((rd_ne hI26 q2).trans ((rd_ne hI24 q2).trans (rd_nn hI21 q1))))), (rd_ne hI32 (by decide)).trans ((rd_ne hI30 (by decide)).trans ((rd_ne hI28 (by decide)).trans ((rd_ne hI26 (by decide)).trans ((rd_ne hI24 (by decide)).trans (rd_eq hI21))))), ?_⟩
            have ex : mc.length - 1 = tc := by omega
            unfold g_rule1
            rw [show k0 + mc.length - 1 = k0 + tc by omega, row_u2 hI32, row_u2 hI30, row_u2 hI28, row_u2 hI26, row_u2 hI24, show (I21) 762 = _ from funext (fun i => rd_ne hI21 (by decide))]
          · refine r_aload_n (x := some 761) (pc2 := 103) d_M_rule_102 rfl rfl ?_
            refine r_bipush (v := (-36 : Int32)) (pc2 := 105) d_M_rule_103 rfl (by decide) ?_
            refine q_callv (M2 := mi_M_refused) (pc2 := 108) d_M_rule_105 rfl k_M_106 cm_M_refused cv_M_refused (sh_761 hS) (by decide) rfl rfl rfl (Nat.le_of_ble_eq_true rfl) (c_M_refused_4 (I := I21) hS hR) (d2 := d - 1) (by omega) (Nat.le_of_eq (Nat.zero_add _)) (Nat.le_of_eq (Nat.zero_add _)) ?_
            obtain ⟨I33, hI33⟩ : ∃ x, x = u2 I21 765 4 (I21 765 4 + nI 1) := ⟨_, rfl⟩
            rw [← hI33]
            refine Run.ret (some (.int ((-36 : Int32)))) d_M_rule_108 ⟨_, rfl⟩ ?_
            unfold MUX
            have e_ : rdR T n tpfN = (some (mc, aa), qa) := rdR_s hc hoq11 (by omega)
            rw [if_pos (show 0 ≤ (nI fN).toInt ∧ (nI fN).toInt < (nF : Int) by omega)]
            dsimp only
            rw [show (I 762 (174 + 84 * (nI fN).toInt.toNat + 0)).toInt.toNat = tpfN from by rw [efN, Int.toNat_natCast, b0fN, Int.toNat_natCast], e_]
            dsimp only
            rw [show (I 762 (174 + 84 * (nI fN).toInt.toNat + 4)).toInt = (nRfN : Int) from by rw [efN, Int.toNat_natCast, b4fN], if_pos (by omega)]
            refine ⟨rfl, _, _, _, _, _, _, A2, by rw [hc]; exact hmq11, rfl, fun a i q1 q2 => (rd_nn hI33 q2).trans (rd_nn hI21 q1), (rd_ne hI33 (by decide)).trans (rd_eq hI21), (rd_eq hI33).trans (by first | rfl | (rw [rd_ne hI21 (by decide)]))⟩
  · refine r_aload_n (x := some 761) (pc2 := 9) d_M_rule_8 rfl rfl ?_
    refine r_iconst (v := nI 0) (pc2 := 10) d_M_rule_9 rfl (by decide) ?_
    refine q_putI (pc2 := 13) d_M_rule_10 rfl k_M_109 (Or.inl rfl) (sh_761 hS) (Or.inl rfl) (fun I34 hI34 => ?_)
    refine r_aload_n (x := some 761) (pc2 := 14) d_M_rule_13 rfl rfl ?_
    refine r_bipush (v := (-32 : Int32)) (pc2 := 16) d_M_rule_14 rfl (by decide) ?_
    refine q_callv (M2 := mi_M_refused) (pc2 := 19) d_M_rule_16 rfl k_M_106 cm_M_refused cv_M_refused (sh_761 hS) (by decide) rfl rfl rfl (Nat.le_of_ble_eq_true rfl) (c_M_refused_0 (I := I34) hS hR) (d2 := d - 1) (by omega) (Nat.le_of_eq (Nat.zero_add _)) (Nat.le_of_eq (Nat.zero_add _)) ?_
    obtain ⟨I35, hI35⟩ : ∃ x, x = u2 I34 765 0 (I34 765 0 + nI 1) := ⟨_, rfl⟩
    rw [← hI35]
    refine Run.ret (some (.int ((-32 : Int32)))) d_M_rule_19 ⟨_, rfl⟩ ?_
    unfold MUX
    rw [if_neg (by omega)]
    exact ⟨rfl, _, rfl, fun a i q1 q2 => (rd_nn hI35 q2).trans (rd_nn hI34 q1), (rd_ne hI35 (by decide)).trans (rd_eq hI34), (rd_eq hI35).trans (by first | rfl | (rw [rd_ne hI34 (by decide)]))⟩
