/-! THE CLASS: rule -/
/-- rule refuses -/
def RUB (j : Nat) (v : Int32) (I : Nat → Nat → Int32) (R : Nat → Nat → Option Nat) (L : Nat → Nat → Int64) (sh : Nat → Nat × Nat) (N : Nat) (x : Option Value) (h2 : HS) : Prop :=
  ∃ K R', x = some (.int v) ∧ h2 = (K, R', L, sh, N) ∧ FrXR R R' ∧ (∀ a k, ¬ scX sh a → ¬ (a = 0 ∧ k = 9) → a ≠ 744 → K a k = I a k) ∧ K 0 9 = nI 0 ∧ ∀ k, K 744 k = if k = j then I 744 k + nI 1 else I 744 k
/-- a condition of these nodes -/
def CoK (c : Nat) (ns : List Nd) (K : Nat → Nat → Int32) (R1 : Nat → Nat → Option Nat) (sh1 : Nat → Nat × Nat) : Prop :=
  (sh1 c = (1, 0) ∧ sh1 (c + 1) = (12, ns.length) ∧ sh1 (c + 2) = (12, ns.length) ∧ sh1 (c + 3) = (12, ns.length) ∧ sh1 (c + 4) = (12, ns.length) ∧ sh1 (c + 5) = (14, ns.length)) ∧ (R1 c 0 = some (c + 1) ∧ R1 c 1 = some (c + 2) ∧ R1 c 2 = some (c + 3) ∧ R1 c 3 = some (c + 4) ∧ R1 c 4 = some (c + 5)) ∧ ∀ j, j < ns.length → K (c + 1) j = nI (nd ns j).1 ∧ K (c + 2) j = nI (nd ns j).2.1 ∧ ((nd ns j).1 ≠ 3 → K (c + 3) j = nI (nd ns j).2.2.1) ∧ K (c + 4) j = nI (nd ns j).2.2.2
/-- the answer in a rule of the class -/
def PAr (a : Nat ⊕ (Nat × Nat × Nat)) (q : Nat) (K : Nat → Nat → Int32) : Prop := match a with
  | .inl v => K q 1 = nI v
  | .inr (a, b, c) => K q 1 = -1 ∧ K (q + 1) 0 = nI a ∧ K (q + 1) 1 = nI b ∧ K (q + 1) 2 = nI c
/-- rule does it: the heap told outright -/
def RUD (F r : Nat) (ns : List Nd) (a : Nat ⊕ (Nat × Nat × Nat)) (I : Nat → Nat → Int32) (R : Nat → Nat → Option Nat) (L : Nat → Nat → Int64) (sh : Nat → Nat × Nat) (N : Nat) (x : Option Value) (h2 : HS) : Prop :=
  ∃ K R1 L1 sh1, x = some (.int (nI r)) ∧ h2 = (K, R1, L1, sh1, N + 6) ∧ ShN sh1 (N + 6) ∧ (∀ b, b < N → sh1 b = sh b) ∧ (∀ b j, b < N → L1 b j = L b j) ∧ (∀ b j, b < N → b ≠ 731 → b ≠ ru 0 F r → R1 b j = R b j) ∧ RfOK R1 ∧ R1 (ru 0 F r) 0 = some N ∧
    (∀ b j, b < N → ¬ (731 ≤ b ∧ b < 740) → ¬ (b = 0 ∧ j = 9) → ¬ (b = fe 0 F ∧ j = 5) → b ≠ ru 0 F r → b ≠ ru 0 F r + 1 → K b j = I b j) ∧ K 0 9 = nI 0 ∧ K (fe 0 F) 5 = nI (r + 1) ∧ CoK N ns K R1 sh1 ∧ PAr a (ru 0 F r) K
/-- what rule of the class leaves -/
def RUX (G T : Nat → Int32) (n nF : Nat) (f : Int32) (I : Nat → Nat → Int32) (R : Nat → Nat → Option Nat) (L : Nat → Nat → Int64) (sh : Nat → Nat × Nat) (N : Nat) (x : Option Value) (h2 : HS) : Prop :=
  if 0 ≤ f.toInt ∧ f.toInt < (nF : Int) then (match rdR T n (G (174 + 84 * f.toInt.toNat + 0)).toInt.toNat with
    | (none, q) => RUB 0 ((-500 : Int32) - nI q) I R L sh N x h2
    | (some (ns, a), _) => if (G (174 + 84 * f.toInt.toNat + 4)).toInt = 6 then RUB 4 (-36) I R L sh N x h2 else RUD f.toInt.toNat (G (174 + 84 * f.toInt.toNat + 4)).toInt.toNat ns a I R L sh N x h2)
  else RUB 0 (-32) I R L sh N x h2
theorem rd_nn {α : Type} {I' I : Nat → Nat → α} {a k : Nat} {v : α} (h : I' = u2 I a k v) {b j : Nat} (hb : ¬ (b = a ∧ j = k)) : I' b j = I b j := by
  subst h; unfold u2; rw [if_neg hb]
theorem rd_inc {I J K : Nat → Nat → Int32} {j : Nat} (h : K = u2 J 744 j (J 744 j + nI 1)) (e : ∀ k, J 744 k = I 744 k) (k : Nat) : K 744 k = if k = j then I 744 k + nI 1 else I 744 k := by
  by_cases y : k = j
  · subst y; rw [if_pos rfl, rd_eq h, e]
  · rw [if_neg y, rd_nk h y, e]
theorem scX_731 {sh : Nat → Nat × Nat} {a : Nat} (h : ¬ scX sh a) : ¬ (731 ≤ a ∧ a < 744) := fun z => h (Or.inr (Or.inl z))
theorem FrXR.r {R R1 : Nat → Nat → Option Nat} {v : Option Nat} (e : R1 = u2 R 731 0 v) : FrXR R R1 := ⟨fun a j _ q => rd_ne e q, fun h => RfOK_731 h e⟩
theorem RUR {N F r : Nat} {R R2 R3 : Nat → Nat → Option Nat} (hN : 781 ≤ N) (h : RfOK R) (e : ∀ a j, a < N → R2 a j = R a j) (hF : F < 12) (hr : r < 6) (e3 : R3 = u2 R2 (ru 0 F r) 0 (some N)) : RfOK R3 := by
  have h2 : RfOK R2 := by
    have hx : ∀ x ∈ rfL, x.1 < 781 := by decide +kernel
    obtain ⟨h1, h2, h3, h4⟩ := h
    refine ⟨fun x hm => (e _ _ (by have := hx x hm; omega)).trans (h1 x hm), fun d hd F hF => ?_, fun d hd F hF => ?_, fun d hd F hF r hr => ?_⟩
    · rw [e _ _ (by unfold dk; omega)]; exact h2 d hd F hF
    · rw [e _ _ (by unfold fe; omega), e _ _ (by unfold fe; omega), e _ _ (by unfold fe; omega), e _ _ (by unfold fe; omega), e _ _ (by unfold fe; omega), e _ _ (by unfold fe; omega)]; exact h3 d hd F hF
    · rw [e _ _ (by unfold fe; omega), e _ _ (by unfold ru fe; omega)]; exact h4 d hd F hF r hr
  refine RfOK_ru h2 (fun a j q => ?_)
  by_cases y : a = ru 0 F r
  · subst y; exact rd_nk e3 (fun z => q 0 F r (by decide) hF hr ⟨rfl, z⟩)
  · exact rd_ne e3 y
theorem c_X_rule {d : Nat} {I : Nat → Nat → Int32} {R : Nat → Nat → Option Nat} {L : Nat → Nat → Int64} {sh : Nat → Nat × Nat} {N : Nat} (hS : ShOK sh) (hR : RfOK R) {tK tF tC tS : Nat → Int32} {nt : Nat} (hV : TV tK tF tC nt) (hV2 : TV2 tK tF tC tS nt) (hnt6 : nt ≤ 1000000) {G : Nat → Int32} {nP nF nS : Nat} (hW : WFA G nP nF nt) (hWT : WFT G nF nS) (hKW : WFK G nP nF) {rk : Nat → Nat} (hrk : RK G nF rk) (hD : DR tK tF tC tS I R sh nt 0 G nP nF nS) {f : Int32} {T : Nat → Int32} {n : Nat} (hT : ∀ j, j < n → I 730 j = T j) (hn9 : I 0 9 = nI n) (hn : n ≤ 250) (hN : 781 ≤ N) (hNs : ShN sh N) (hd : 40 ≤ d) : Mt mi_X_rule d 6 1250 [.ref 0, .int f] (I, R, L, sh, N) (RUX G T n nF f I R L sh N) := by
  obtain ⟨hPc, hP24, hFc, hF12, hWF, hWP⟩ := id hW
  have hS24 := hWT.2.1
  refine Mt.of pn_X (Nat.le_of_ble_eq_true rfl) ?_
  show Run mi_X_rule d 6 1250 0 [(0, .ref 0), (1, .int f)] [] (I, R, L, sh, N) _
  refine r_aload_n (x := some 0) (pc2 := 1) d_X_rule_0 rfl rfl ?_
  refine q_getI (x := nI n) (pc2 := 4) d_X_rule_1 rfl k_X_49 (by decide) (sh_0 hS) hn9 ?_
  refine r_istore_n (pc2 := 5) d_X_rule_4 rfl rfl (Nat.le_of_ble_eq_true rfl) ?_
  refine r_aload_n (x := some 0) (pc2 := 6) d_X_rule_5 rfl rfl ?_
  refine r_iconst (v := nI 0) (pc2 := 7) d_X_rule_6 rfl (by decide) ?_
  refine q_putI (pc2 := 10) d_X_rule_7 rfl k_X_49 (Or.inl rfl) (sh_0 hS) (Or.inl rfl) (fun I1 hI1 => ?_)
  have hD := DR.w hW (by decide) hD (J := I1) (R' := R) (fun a j q1 q2 => rd_ne hI1 (by unfold dk at q1; omega)) (fun _ _ _ _ => rfl) (fun a j q1 q2 => rd_ne hI1 (by omega)) (fun _ _ _ => rfl)
  refine r_aload_n (x := some 0) (pc2 := 11) d_X_rule_10 rfl rfl ?_
  refine r_iload_n (pc2 := 12) d_X_rule_11 rfl rfl ?_
  refine q_callv (M2 := mi_X_isFeature) (pc2 := 15) d_X_rule_12 rfl k_X_220 cm_X_isFeature cv_X_isFeature (sh_0 hS) (by decide) rfl rfl rfl (Nat.le_of_ble_eq_true rfl) (c_X_isFeature (f := f) hS hR hV hV2 hnt6 hW hWT hKW hrk hD) (d2 := d - 1) (by omega) (Nat.le_of_eq (Nat.zero_add _)) (Nat.le_of_eq (Nat.zero_add _)) ?_
  refine q_bif_ne (tgt := 25) (pc2 := 18) d_X_rule_15 rfl rfl (fun c2 => ?_) (fun c2 => ?_)
  · obtain ⟨fN, hfN, rfl, efN⟩ := nat_of c2
    obtain ⟨tpfN, klfN, skfN, fbfN, nRfN, nNfN, nOfN, frfN, tofN, ⟨a0fN, b0fN, cc0fN, dd0fN⟩, ⟨a1fN, b1fN, cc1fN, dd1fN⟩, ⟨a2fN, b2fN, cc2fN, dd2fN⟩, ⟨a3fN, b3fN, cc3fN, dd3fN⟩, ⟨a4fN, b4fN, cc4fN, dd4fN⟩, ⟨a5fN, b5fN, cc5fN, dd5fN⟩, ⟨a6fN, b6fN, cc6fN, dd6fN⟩, ⟨a8fN, b8fN, cc8fN, dd8fN⟩, ⟨a9fN, b9fN, cc9fN, dd9fN⟩⟩ := wfn (hWF fN (by omega))
    obtain ⟨-, -, -, -, -, -, -, w7fN, -, -, wNfN, wRfN, wKfN, wOfN⟩ := hWF fN (by omega)
    obtain ⟨⟨x0fN, x1fN, x2fN, x3fN, x4fN, x5fN, x6fN, x7fN, x8fN⟩, xnfN, xofN, xkfN, xcfN, xrfN⟩ := hD.2.2.2.1 fN (by omega)
    have hflfN := fe_lt (e := 0) (by decide) (show fN < 12 by omega)
    unfold dk at hflfN
    refine r_aload_n (x := some 0) (pc2 := 26) d_X_rule_25 rfl rfl ?_
    refine q_getR (x := some 1) (pc2 := 29) d_X_rule_26 rfl k_X_12 rfl (sh_0 hS) (rf_0_0 hR) ?_
    refine q_getR (x := some 5) (pc2 := 32) d_X_rule_29 rfl k_X_211 rfl (sh_1 hS) (rf_1_1 hR) ?_
    refine r_iload_n (pc2 := 33) d_X_rule_32 rfl rfl ?_
    refine q_aaload (q := fN) (x := some (fe 0 fN)) (pc2 := 34) d_X_rule_33 rfl (sh_5 hS) (by decide) (by decide) (nI_toInt (by omega)) (by omega) (rf_fe hR (show 0 < 3 by decide) (show fN < 12 by omega)) ?_
    refine r_astore_n (x := some (fe 0 fN)) (pc2 := 35) d_X_rule_34 rfl rfl (Nat.le_of_ble_eq_true rfl) ?_
    refine r_aload_n (x := some 0) (pc2 := 36) d_X_rule_35 rfl rfl ?_
    refine q_getR (x := some 731) (pc2 := 39) d_X_rule_36 rfl k_X_56 rfl (sh_0 hS) (rf_0_10 hR) ?_
    refine r_aload_n (x := some 0) (pc2 := 40) d_X_rule_39 rfl rfl ?_
    refine q_getR (x := some 730) (pc2 := 43) d_X_rule_40 rfl k_X_46 rfl (sh_0 hS) (rf_0_8 hR) ?_
    refine r_iload_n (pc2 := 44) d_X_rule_43 rfl rfl ?_
    refine r_aload_n (x := some (fe 0 fN)) (pc2 := 45) d_X_rule_44 rfl rfl ?_
    refine q_getI (x := nI tpfN) (pc2 := 48) d_X_rule_45 rfl k_X_215 (by decide) (sh_fe0 hS (show 0 < 3 by decide) (show fN < 12 by omega)) (x0fN.trans a0fN) ?_
    refine r_callv (M2 := mi_Re_read) (pc2 := 51) d_X_rule_48 rfl k_X_232 cm_Re_read cv_Re_read (sh_731 hS) (by decide) rfl rfl rfl (Nat.le_of_ble_eq_true rfl) (c_Re_read (J := I1) hS hR (T := T) (n := n) (top := tpfN) (fun j hj => (rd_ne hI1 (by decide)).trans (hT j hj)) hn (by omega) (d := d - 1) (by omega)) (d2 := d - 1) (by omega) (Nat.le_of_eq (Nat.zero_add _)) (Nat.le_of_eq (Nat.zero_add _)) (fun r2 h2 hq2 => ?_)
    obtain ⟨Kr, Rr, rfl, hRe, hfK, hm⟩ := hq2
    have hRo := hR
    have hR := RfOK_731 hRo hRe
    rcases hrd : rdR T n tpfN with ⟨oo, qq⟩
    rw [hrd] at hm
    cases oo with
    | none =>
      obtain ⟨rfl, hqq⟩ := hm
      refine r_istore (pc2 := 53) d_X_rule_51 rfl (Nat.le_of_ble_eq_true rfl) ?_
      refine r_iload (pc2 := 55) d_X_rule_53 rfl rfl ?_
      refine r_iconst (v := (-1 : Int32)) (pc2 := 56) d_X_rule_55 rfl (by decide) ?_
      refine q_icmp_eq (tgt := 73) (A := ((qq : Nat) : Int)) (B := (-1 : Int)) (pc2 := 59) d_X_rule_56 rfl rfl (nI_toInt (by omega)) (by decide) (fun c3 => ?_) (fun c3 => ?_)
      · exfalso; omega
      refine r_aload_n (x := some 0) (pc2 := 60) d_X_rule_59 rfl rfl ?_
      refine r_bipush (v := (-32 : Int32)) (pc2 := 62) d_X_rule_60 rfl (by decide) ?_
      refine q_callv (M2 := mi_X_refuse) (pc2 := 65) d_X_rule_62 rfl k_X_75 cm_X_refuse cv_X_refuse (sh_0 hS) (by decide) rfl rfl rfl (Nat.le_of_ble_eq_true rfl) (c_X_refuse_0 (J := Kr) hS hR) (d2 := d - 1) (by omega) (Nat.le_of_eq (Nat.zero_add _)) (Nat.le_of_eq (Nat.zero_add _)) ?_
      obtain ⟨I4, hI4⟩ : ∃ x, x = u2 Kr 744 0 (Kr 744 0 + nI 1) := ⟨_, rfl⟩
      rw [← hI4]
      refine r_pop (pc2 := 66) d_X_rule_65 rfl rfl ?_
      refine r_sipush (v := (-500 : Int32)) (pc2 := 69) d_X_rule_66 rfl (by decide) ?_
      refine r_iload (pc2 := 71) d_X_rule_69 rfl rfl ?_
      refine r_isub (pc2 := 72) d_X_rule_71 rfl ?_
      refine Run.ret (some (.int (((-500 : Int32)) - (nI qq)))) d_X_rule_72 ⟨_, rfl⟩ ?_
      unfold RUX
      rw [if_pos (show 0 ≤ (nI fN).toInt ∧ (nI fN).toInt < (nF : Int) by omega), show (G (174 + 84 * (nI fN).toInt.toNat + 0)).toInt.toNat = tpfN from by rw [efN, Int.toNat_natCast, b0fN, Int.toNat_natCast], hrd]
      have hsc : ∀ a k, ¬ (731 ≤ a ∧ a < 740) → ¬ (a = 0 ∧ k = 9) → Kr a k = I a k := fun a k q1 q2 => (hfK a k q1).trans (rd_nn hI1 q2)
      exact ⟨_, _, rfl, rfl, FrXR.r hRe, fun a k q1 q2 q3 => (rd_ne hI4 q3).trans (hsc a k (fun z => scX_731 q1 ⟨z.1, by omega⟩) q2), (rd_ne hI4 (by decide)).trans ((hfK _ _ (by decide)).trans (rd_eq hI1)), rd_inc hI4 (fun k => hsc _ _ (by decide) (fun z => by have := z.1; omega))⟩
    | some ma =>
      obtain ⟨ns, aa⟩ := ma
      obtain ⟨rfl, hm9, hnr, hpa, hm0, hm25⟩ := hm
      refine r_istore (pc2 := 53) d_X_rule_51 rfl (Nat.le_of_ble_eq_true rfl) ?_
      refine r_iload (pc2 := 55) d_X_rule_53 rfl rfl ?_
      refine r_iconst (v := (-1 : Int32)) (pc2 := 56) d_X_rule_55 rfl (by decide) ?_
      refine q_icmp_eq (tgt := 73) (A := (-1 : Int)) (B := (-1 : Int)) (pc2 := 59) d_X_rule_56 rfl rfl (by decide) (by decide) (fun c5 => ?_) (fun c5 => ?_)
      rotate_left
      · exfalso; omega
      refine r_aload_n (x := some (fe 0 fN)) (pc2 := 74) d_X_rule_73 rfl rfl ?_
      refine q_getI (x := nI nRfN) (pc2 := 77) d_X_rule_74 rfl k_X_236 (by decide) (sh_fe0 hS (show 0 < 3 by decide) (show fN < 12 by omega)) ((hfK (fe 0 fN) 5 (by omega)).trans (x4fN.trans a4fN)) ?_
      refine r_bipush (v := nI 6) (pc2 := 79) d_X_rule_77 rfl (by decide) ?_
      refine q_icmp_lt (tgt := 89) (A := ((nRfN : Nat) : Int)) (B := (6 : Int)) (pc2 := 82) d_X_rule_79 rfl rfl (nI_toInt (by omega)) (nI_toInt (by omega)) (fun c6 => ?_) (fun c6 => ?_)
      · refine r_aload_n (x := some (fe 0 fN)) (pc2 := 90) d_X_rule_89 rfl rfl ?_
        refine q_getI (x := nI nRfN) (pc2 := 93) d_X_rule_90 rfl k_X_236 (by decide) (sh_fe0 hS (show 0 < 3 by decide) (show fN < 12 by omega)) ((hfK (fe 0 fN) 5 (by omega)).trans (x4fN.trans a4fN)) ?_
        refine r_istore (pc2 := 95) d_X_rule_93 rfl (Nat.le_of_ble_eq_true rfl) ?_
        refine r_aload_n (x := some (fe 0 fN)) (pc2 := 96) d_X_rule_95 rfl rfl ?_
        refine q_getR (x := some (fe 0 fN + 1)) (pc2 := 99) d_X_rule_96 rfl k_X_239 rfl (sh_fe0 hS (show 0 < 3 by decide) (show fN < 12 by omega)) (rf_fe_4 hR (show 0 < 3 by decide) (show fN < 12 by omega)) ?_
        refine r_iload (pc2 := 101) d_X_rule_99 rfl rfl ?_
        refine q_aaload (q := nRfN) (x := some (ru 0 fN nRfN)) (pc2 := 102) d_X_rule_101 rfl (sh_fe1 hS (show 0 < 3 by decide) (show fN < 12 by omega)) (by decide) (by decide) (nI_toInt (by omega)) (by omega) (rf_ru hR (show 0 < 3 by decide) (show fN < 12 by omega) (show nRfN < 6 by omega)) ?_
        refine r_aload_n (x := some 0) (pc2 := 103) d_X_rule_102 rfl rfl ?_
        refine q_getR (x := some 731) (pc2 := 106) d_X_rule_103 rfl k_X_56 rfl (sh_0 hS) (rf_0_10 hR) ?_
        refine r_callv (M2 := mi_Re_makeCondition) (pc2 := 109) (as := []) d_X_rule_106 rfl k_X_243 cm_Re_makeCondition cv_Re_makeCondition (sh_731 hS) (by decide) rfl rfl rfl (Nat.le_of_ble_eq_true rfl) (c_Re_makeCondition (m := ns.length) hS hR hN hNs hm9 hm0 hm25 (by omega)) (d2 := d - 1) (ac1 := 0) (az1 := 0) (by omega) (by omega) (by omega) (fun r2 h2 hq2 => ?_)
        obtain ⟨rfl, K2, R2, L2, S2, rfl, hfb, hcn, hsn⟩ := hq2
        have hS2 : ShOK S2 := fun i hi => (hfb.2.2.2 i (by omega)).trans (hS i hi)
        have hrl : 12 ≤ ru 0 fN nRfN ∧ ru 0 fN nRfN + 1 < 240 ∧ fe 0 fN + 6 < ru 0 fN nRfN := by unfold ru fe; omega
        have hR2 : R2 0 10 = some 731 := (hfb.2.1 _ _ (by omega)).trans (rf_0_10 hR)
        have hR3 : R2 731 4 = some 733 := (hfb.2.1 _ _ (by omega)).trans (rf_731_4 hR)
        refine r_aload_n (x := some 0) (pc2 := 110) d_X_rule_109 rfl rfl ?_
        refine q_getR (x := some 731) (pc2 := 113) d_X_rule_110 rfl k_X_56 rfl (sh_0 hS2) hR2 ?_
        refine q_getI (x := K2 731 3) (pc2 := 116) d_X_rule_113 rfl k_X_247 (by decide) (sh_731 hS2) rfl ?_
        refine r_aload_n (x := some 0) (pc2 := 117) d_X_rule_116 rfl rfl ?_
        refine q_getR (x := some 731) (pc2 := 120) d_X_rule_117 rfl k_X_56 rfl (sh_0 hS2) hR2 ?_
        refine q_getR (x := some 733) (pc2 := 123) d_X_rule_120 rfl k_X_250 rfl (sh_731 hS2) hR3 ?_
        refine r_callv (M2 := mi_Ru_take) (pc2 := 126) d_X_rule_123 rfl k_X_253 cm_Ru_take cv_Ru_take (sh_ru hS2 (show 0 < 3 by decide) (show fN < 12 by omega) (show nRfN < 6 by omega)) (by decide) rfl rfl rfl (Nat.le_of_ble_eq_true rfl) (c_Ru_take (J := K2) (R := R2) (q := ru 0 fN nRfN) (sh_ru hS2 (show 0 < 3 by decide) (show fN < 12 by omega) (show nRfN < 6 by omega)) (sh_rp hS2 (show 0 < 3 by decide) (show fN < 12 by omega) (show nRfN < 6 by omega)) ((hfb.2.1 _ _ (by omega)).trans (rf_rp hR (show 0 < 3 by decide) (show fN < 12 by omega) (show nRfN < 6 by omega))) (P := 733) (sh_733 hS2) (c := N) (f := K2 731 3) (d := d - 1) (by omega)) (d2 := d - 1) (by omega) (Nat.le_of_eq (Nat.zero_add _)) (Nat.le_of_eq (Nat.zero_add _)) (fun r2 h2 hq2 => ?_)
        obtain ⟨rfl, K3, K4, R3, rfl, hr3, hk3, hk4⟩ := hq2
        refine r_aload_n (x := some (fe 0 fN)) (pc2 := 127) d_X_rule_126 rfl rfl ?_
        refine r_dup (pc2 := 128) d_X_rule_127 rfl rfl ?_
        refine q_getI (x := nI nRfN) (pc2 := 131) d_X_rule_128 rfl k_X_236 (by decide) (sh_fe0 hS2 (show 0 < 3 by decide) (show fN < 12 by omega)) ((cpy_o hk4 (by omega)).trans ((rd_ne hk3 (by omega)).trans ((hfb.1 (fe 0 fN) 5 (by omega)).trans ((hfK (fe 0 fN) 5 (by omega)).trans (x4fN.trans a4fN))))) ?_
        refine r_iconst (v := nI 1) (pc2 := 132) d_X_rule_131 rfl (by decide) ?_
        refine q_iaddN (pc2 := 133) d_X_rule_132 rfl ?_
        refine q_putI (pc2 := 136) d_X_rule_133 rfl k_X_236 (Or.inl rfl) (sh_fe0 hS2 (show 0 < 3 by decide) (show fN < 12 by omega)) (Or.inl rfl) (fun I7 hI7 => ?_)
        refine r_iload (pc2 := 138) d_X_rule_136 rfl rfl ?_
        refine Run.ret (some (.int (nI nRfN))) d_X_rule_138 ⟨_, rfl⟩ ?_
        unfold RUX
        rw [if_pos (show 0 ≤ (nI fN).toInt ∧ (nI fN).toInt < (nF : Int) by omega), show (G (174 + 84 * (nI fN).toInt.toNat + 0)).toInt.toNat = tpfN from by rw [efN, Int.toNat_natCast, b0fN, Int.toNat_natCast], hrd]
        dsimp only
        rw [show (G (174 + 84 * (nI fN).toInt.toNat + 4)).toInt = (nRfN : Int) from by rw [efN, Int.toNat_natCast, b4fN], if_neg (by omega), efN, Int.toNat_natCast, Int.toNat_natCast]
        have hsc : ∀ a k, a < N → ¬ (731 ≤ a ∧ a < 740) → ¬ (a = 0 ∧ k = 9) → K2 a k = I a k := fun a k q0 q1 q2 => (hfb.1 a k q0).trans ((hfK a k q1).trans (rd_nn hI1 q2))
        have hK2 : ∀ a k, a ≠ fe 0 fN → a ≠ ru 0 fN nRfN → a ≠ ru 0 fN nRfN + 1 → I7 a k = K2 a k := fun a k q1 q2 q3 => (rd_ne hI7 q1).trans ((cpy_o hk4 q3).trans (rd_ne hk3 q2))
        have hR1 : ∀ b j, b < N → b ≠ 731 → b ≠ ru 0 fN nRfN → R3 b j = R b j := fun b j q0 q1 q2 => (rd_ne hr3 q2).trans ((hfb.2.1 b j q0).trans (rd_ne hRe q1))
        refine ⟨_, _, _, _, rfl, rfl, hsn, hfb.2.2.2, hfb.2.2.1, hR1, ?_, rd_eq hr3, ?_, ?_, rd_eq hI7, ⟨hcn.1, ?_, ?_⟩, ?_⟩
        · exact RUR hN hR hfb.2.1 (by omega) (by omega) hr3
        · intro b j q0 q1 q2 q3 q4 q5
          by_cases y : b = fe 0 fN
          · subst y; rw [rd_nn hI7 q3, cpy_o hk4 q5, rd_ne hk3 q4]; exact hsc _ _ q0 q1 q2
          · exact (hK2 b j y q4 q5).trans (hsc b j q0 q1 q2)
        · exact (hK2 0 9 (by omega) (by omega) (by omega)).trans ((hfb.1 _ _ (by omega)).trans ((hfK _ _ (by decide)).trans (rd_eq hI1)))
        · rw [rd_ne hr3 (by omega), rd_ne hr3 (by omega), rd_ne hr3 (by omega), rd_ne hr3 (by omega), rd_ne hr3 (by omega)]; exact hcn.2.1
        · intro j hj
          obtain ⟨x1, x2, x3, x4⟩ := hcn.2.2 j hj
          obtain ⟨y1, y2, y3, y4⟩ := hnr j hj
          rw [hK2 _ _ (by omega) (by omega) (by omega), hK2 _ _ (by omega) (by omega) (by omega), hK2 _ _ (by omega) (by omega) (by omega), hK2 _ _ (by omega) (by omega) (by omega)]
          exact ⟨x1.trans y1, x2.trans y2, fun z => x3.trans (y3 z), x4.trans y4⟩
        · have e0 : ∀ j, K2 731 j = Kr 731 j := fun j => hfb.1 _ _ (by omega)
          have e1 : ∀ j, K2 733 j = Kr 733 j := fun j => hfb.1 _ _ (by omega)
          have e2 : I7 (ru 0 fN nRfN) 1 = Kr 731 3 := (rd_ne hI7 (by omega)).trans ((cpy_o hk4 (by omega)).trans ((rd_eq hk3).trans (e0 3)))
          have e3 : ∀ j, j < 3 → I7 (ru 0 fN nRfN + 1) j = Kr 733 j := fun j hj => (rd_ne hI7 (by omega)).trans ((cpy_i hk4 hj).trans ((rd_ne hk3 (by omega)).trans (e1 j)))
          cases aa with
          | inl v => exact e2.trans hpa
          | inr t =>
            obtain ⟨a, b, c⟩ := t
            exact ⟨e2.trans hpa.1, (e3 0 (by decide)).trans hpa.2.1, (e3 1 (by decide)).trans hpa.2.2.1, (e3 2 (by decide)).trans hpa.2.2.2⟩
      · refine r_aload_n (x := some 0) (pc2 := 83) d_X_rule_82 rfl rfl ?_
        refine r_bipush (v := (-36 : Int32)) (pc2 := 85) d_X_rule_83 rfl (by decide) ?_
        refine q_callv (M2 := mi_X_refuse) (pc2 := 88) d_X_rule_85 rfl k_X_75 cm_X_refuse cv_X_refuse (sh_0 hS) (by decide) rfl rfl rfl (Nat.le_of_ble_eq_true rfl) (c_X_refuse_4 (J := Kr) hS hR) (d2 := d - 1) (by omega) (Nat.le_of_eq (Nat.zero_add _)) (Nat.le_of_eq (Nat.zero_add _)) ?_
        obtain ⟨I8, hI8⟩ : ∃ x, x = u2 Kr 744 4 (Kr 744 4 + nI 1) := ⟨_, rfl⟩
        rw [← hI8]
        refine Run.ret (some (.int ((-36 : Int32)))) d_X_rule_88 ⟨_, rfl⟩ ?_
        unfold RUX
        rw [if_pos (show 0 ≤ (nI fN).toInt ∧ (nI fN).toInt < (nF : Int) by omega), show (G (174 + 84 * (nI fN).toInt.toNat + 0)).toInt.toNat = tpfN from by rw [efN, Int.toNat_natCast, b0fN, Int.toNat_natCast], hrd]
        dsimp only
        rw [show (G (174 + 84 * (nI fN).toInt.toNat + 4)).toInt = (nRfN : Int) from by rw [efN, Int.toNat_natCast, b4fN], if_pos (by omega)]
        have hsc : ∀ a k, ¬ (731 ≤ a ∧ a < 740) → ¬ (a = 0 ∧ k = 9) → Kr a k = I a k := fun a k q1 q2 => (hfK a k q1).trans (rd_nn hI1 q2)
        exact ⟨_, _, rfl, rfl, FrXR.r hRe, fun a k q1 q2 q3 => (rd_ne hI8 q3).trans (hsc a k (fun z => scX_731 q1 ⟨z.1, by omega⟩) q2), (rd_ne hI8 (by decide)).trans ((hfK _ _ (by decide)).trans (rd_eq hI1)), rd_inc hI8 (fun k => hsc _ _ (by decide) (fun z => by have := z.1; omega))⟩
  · refine r_aload_n (x := some 0) (pc2 := 19) d_X_rule_18 rfl rfl ?_
    refine r_bipush (v := (-32 : Int32)) (pc2 := 21) d_X_rule_19 rfl (by decide) ?_
    refine q_callv (M2 := mi_X_refuse) (pc2 := 24) d_X_rule_21 rfl k_X_75 cm_X_refuse cv_X_refuse (sh_0 hS) (by decide) rfl rfl rfl (Nat.le_of_ble_eq_true rfl) (c_X_refuse_0 (J := I1) hS hR) (d2 := d - 1) (by omega) (Nat.le_of_eq (Nat.zero_add _)) (Nat.le_of_eq (Nat.zero_add _)) ?_
    obtain ⟨I9, hI9⟩ : ∃ x, x = u2 I1 744 0 (I1 744 0 + nI 1) := ⟨_, rfl⟩
    rw [← hI9]
    refine Run.ret (some (.int ((-32 : Int32)))) d_X_rule_24 ⟨_, rfl⟩ ?_
    unfold RUX
    rw [if_neg (by omega)]
    exact ⟨_, _, rfl, rfl, FrXR.rf, fun a k q1 q2 q3 => (rd_ne hI9 q3).trans (rd_nn hI1 q2), (rd_ne hI9 (by decide)).trans (rd_eq hI1), rd_inc hI9 (fun k => rd_ne hI1 (by decide))⟩
