/-! THE CLASS: its helpers -/
/-! what a call of the class leaves -/
def XP (I : Nat → Nat → Int32) (R : Nat → Nat → Option Nat) (L : Nat → Nat → Int64) (sh : Nat → Nat × Nat) (N : Nat) (x : Out) (P : (Nat → Nat → Int32) → (Nat → Nat → Option Nat) → Prop) : Option Value → HS → Prop :=
  fun r h' => ∃ K R', h' = (K, R', L, sh, N) ∧ r = some (.int (ansOf x)) ∧ FrXR R R' ∧ (match x with | .inl _ => P K R' | .inr _ => FrX sh (fin1 744 I x) K)
theorem XP.val {I K : Nat → Nat → Int32} {R R' : Nat → Nat → Option Nat} {L : Nat → Nat → Int64} {sh : Nat → Nat × Nat} {N : Nat} {x : Out} {P : (Nat → Nat → Int32) → (Nat → Nat → Option Nat) → Prop} {v : Int32} (e : x = .inl v) (hR : FrXR R R') (hK : P K R') : XP I R L sh N x P (some (.int v)) (K, R', L, sh, N) := by
  subst e; exact ⟨K, R', rfl, rfl, hR, hK⟩
theorem XP.bad {I J K : Nat → Nat → Int32} {R R' : Nat → Nat → Option Nat} {L : Nat → Nat → Int64} {sh : Nat → Nat × Nat} {N : Nat} {x : Out} {P : (Nat → Nat → Int32) → (Nat → Nat → Option Nat) → Prop} {v : Int32} (hS : ShOK sh) (j : Nat) (e : x = .inr j) (hv : v = Int32.ofInt (-32 - (j : Int))) (hR : FrXR R R') (hJ : FrX sh I J) (hK : K = u2 J 744 j (J 744 j + nI 1)) : XP I R L sh N x P (some (.int v)) (K, R', L, sh, N) := by
  subst e; subst hv; subst hK
  refine ⟨_, R', rfl, rfl, hR, ?_⟩
  intro a i q
  have e1 : J 744 j = I 744 j := hJ 744 j (by unfold scX; rw [sh_744 hS]; omega)
  show u2 J 744 j (J 744 j + nI 1) a i = u2 I 744 j (I 744 j + nI 1) a i
  unfold u2
  rw [e1, hJ a i q]
theorem FrN.x {sh : Nat → Nat × Nat} {A : Nat} {I J : Nat → Nat → Int32} (hA : A = 718 ∨ A = 723) (h : FrN sh A I J) : FrX sh I J := fun a j q => h a j (fun z => q (by unfold scX; omega)) (fun z => q (by unfold scX; omega))
/-- who has a key, told as a long -/
def fL (G : Nat → Int32) (nP : Nat) (x : Int64) : Option Nat := fst1 (fun p => decide ((G (6 + 2 * p)).toInt = x.toInt)) nP
theorem fL_i {G : Nat → Int32} {nP : Nat} {key : Int32} : fL G nP key.toInt64 = pB G nP key := by
  unfold fL pB
  refine fst1_congr (fun j _ => ?_)
  rw [Int32.toInt_toInt64]
  exact decide_eq_decide.mpr Int32.toInt_inj
theorem fL_j {G : Nat → Int32} {nP : Nat} {x : Int64} (h : ∀ p, p < nP → 0 ≤ (G (6 + 2 * p)).toInt ∧ (G (6 + 2 * p)).toInt ≤ 999999) : fL G nP x = pJ G nP x := by
  unfold fL pJ
  by_cases q : 0 ≤ x.toInt ∧ x.toInt ≤ 999999
  · rw [if_pos q]
    unfold pB
    refine fst1_congr (fun j _ => decide_eq_decide.mpr ?_)
    have e : x.toInt32.toInt = x.toInt := by
      rw [Int64.toInt_toInt32]
      apply Int.bmod_eq_of_le <;> omega
    rw [← Int32.toInt_inj, e]
  · rw [if_neg q]
    exact fst1_none (fun j hj => decide_eq_false (fun e => q (by have := h j hj; omega)))
theorem c_X_isFeature {d : Nat} {I : Nat → Nat → Int32} {R : Nat → Nat → Option Nat} {L : Nat → Nat → Int64} {sh : Nat → Nat × Nat} {N : Nat} (hS : ShOK sh) (hR : RfOK R) {tK tF tC tS : Nat → Int32} {nt : Nat} (hV : TV tK tF tC nt) (hV2 : TV2 tK tF tC tS nt) (hnt6 : nt ≤ 1000000) {G : Nat → Int32} {nP nF nS : Nat} (hW : WFA G nP nF nt) (hWT : WFT G nF nS) (hKW : WFK G nP nF) {rk : Nat → Nat} (hrk : RK G nF rk) (hD : DR tK tF tC tS I R sh nt 0 G nP nF nS) {f : Int32} : Me mi_X_isFeature d 0 0 [.ref 0, .int f] (I, R, L, sh, N) (some (.int (bI (0 ≤ (f).toInt ∧ (f).toInt < (nF : Int))))) (I, R, L, sh, N) := by
  obtain ⟨hPc, hP24, hFc, hF12, hWF, hWP⟩ := id hW
  refine Mt.of pn_X (Nat.le_of_ble_eq_true rfl) ?_
  show Run mi_X_isFeature d 0 0 0 [(0, .ref 0), (1, .int f)] [] (I, R, L, sh, N) _
  refine r_iload_n (pc2 := 1) d_X_isFeature_0 rfl rfl ?_
  refine q_if_lt (tgt := 19) (A := f.toInt) (pc2 := 4) d_X_isFeature_1 rfl rfl (rfl) (fun c1 => ?_) (fun c1 => ?_)
  · refine r_iconst (v := nI 0) (pc2 := 20) d_X_isFeature_19 rfl (by decide) ?_
    refine Run.ret (some (.int (nI 0))) d_X_isFeature_20 ⟨_, rfl, by decide⟩ ?_
    exact ⟨by rw [bI_f (by first | omega | (repeat' constructor) <;> omega)]; rfl, rfl⟩
  · refine r_iload_n (pc2 := 5) d_X_isFeature_4 rfl rfl ?_
    refine r_aload_n (x := some 0) (pc2 := 6) d_X_isFeature_5 rfl rfl ?_
    refine q_getR (x := some 1) (pc2 := 9) d_X_isFeature_6 rfl k_X_12 rfl (sh_0 hS) (rf_0_0 hR) ?_
    refine q_getI (x := nI nF) (pc2 := 12) d_X_isFeature_9 rfl k_X_208 (by decide) (sh_1 hS) hD.1.2.1 ?_
    refine q_icmp_ge (tgt := 19) (A := f.toInt) (B := ((nF : Nat) : Int)) (pc2 := 15) d_X_isFeature_12 rfl rfl (rfl) (nI_toInt (by omega)) (fun c2 => ?_) (fun c2 => ?_)
    · refine r_iconst (v := nI 0) (pc2 := 20) d_X_isFeature_19 rfl (by decide) ?_
      refine Run.ret (some (.int (nI 0))) d_X_isFeature_20 ⟨_, rfl, by decide⟩ ?_
      exact ⟨by rw [bI_f (by first | omega | (repeat' constructor) <;> omega)]; rfl, rfl⟩
    · refine r_iconst (v := nI 1) (pc2 := 16) d_X_isFeature_15 rfl (by decide) ?_
      refine r_goto (tgt := 20) d_X_isFeature_16 rfl ?_
      refine Run.ret (some (.int (nI 1))) d_X_isFeature_20 ⟨_, rfl, by decide⟩ ?_
      exact ⟨by rw [bI_t (by first | omega | (repeat' constructor) <;> omega)]; rfl, rfl⟩
theorem c_X_isRule {d : Nat} {I : Nat → Nat → Int32} {R : Nat → Nat → Option Nat} {L : Nat → Nat → Int64} {sh : Nat → Nat × Nat} {N : Nat} (hS : ShOK sh) (hR : RfOK R) {tK tF tC tS : Nat → Int32} {nt : Nat} (hV : TV tK tF tC nt) (hV2 : TV2 tK tF tC tS nt) (hnt6 : nt ≤ 1000000) {G : Nat → Int32} {nP nF nS : Nat} (hW : WFA G nP nF nt) (hWT : WFT G nF nS) (hKW : WFK G nP nF) {rk : Nat → Nat} (hrk : RK G nF rk) (hD : DR tK tF tC tS I R sh nt 0 G nP nF nS) {f r : Int32} (hd : 2 ≤ d) : Me mi_X_isRule d 0 0 [.ref 0, .int f, .int r] (I, R, L, sh, N) (some (.int (bI ((0 ≤ (f).toInt ∧ (f).toInt < (nF : Int)) ∧ 0 ≤ (r).toInt ∧ (r).toInt < (G (174 + 84 * (f).toInt.toNat + 4)).toInt)))) (I, R, L, sh, N) := by
  obtain ⟨hPc, hP24, hFc, hF12, hWF, hWP⟩ := id hW
  refine Mt.of pn_X (Nat.le_of_ble_eq_true rfl) ?_
  show Run mi_X_isRule d 0 0 0 [(0, .ref 0), (1, .int f), (2, .int r)] [] (I, R, L, sh, N) _
  refine r_aload_n (x := some 0) (pc2 := 1) d_X_isRule_0 rfl rfl ?_
  refine r_iload_n (pc2 := 2) d_X_isRule_1 rfl rfl ?_
  refine q_callv (M2 := mi_X_isFeature) (pc2 := 5) d_X_isRule_2 rfl k_X_220 cm_X_isFeature cv_X_isFeature (sh_0 hS) (by decide) rfl rfl rfl (Nat.le_of_ble_eq_true rfl) (c_X_isFeature (f := f) hS hR hV hV2 hnt6 hW hWT hKW hrk hD) (d2 := d - 1) (by omega) (Nat.le_of_eq (Nat.zero_add _)) (Nat.le_of_eq (Nat.zero_add _)) ?_
  refine q_bif_eq (tgt := 32) (pc2 := 8) d_X_isRule_5 rfl rfl (fun c1 => ?_) (fun c1 => ?_)
  · refine r_iconst (v := nI 0) (pc2 := 33) d_X_isRule_32 rfl (by decide) ?_
    refine Run.ret (some (.int (nI 0))) d_X_isRule_33 ⟨_, rfl, by decide⟩ ?_
    exact ⟨by rw [bI_f (by first | omega | (repeat' constructor) <;> omega)]; rfl, rfl⟩
  · obtain ⟨fN, hfN, rfl, efN⟩ := nat_of c1
    obtain ⟨tpfN, klfN, skfN, fbfN, nRfN, nNfN, nOfN, frfN, tofN, ⟨a0fN, b0fN, cc0fN, dd0fN⟩, ⟨a1fN, b1fN, cc1fN, dd1fN⟩, ⟨a2fN, b2fN, cc2fN, dd2fN⟩, ⟨a3fN, b3fN, cc3fN, dd3fN⟩, ⟨a4fN, b4fN, cc4fN, dd4fN⟩, ⟨a5fN, b5fN, cc5fN, dd5fN⟩, ⟨a6fN, b6fN, cc6fN, dd6fN⟩, ⟨a8fN, b8fN, cc8fN, dd8fN⟩, ⟨a9fN, b9fN, cc9fN, dd9fN⟩⟩ := wfn (hWF fN (by omega))
    obtain ⟨-, -, -, -, -, -, -, w7fN, -, -, wNfN, wRfN, wKfN, wOfN⟩ := hWF fN (by omega)
    obtain ⟨⟨x0fN, x1fN, x2fN, x3fN, x4fN, x5fN, x6fN, x7fN, x8fN⟩, xnfN, xofN, xkfN, xcfN, xrfN⟩ := hD.2.2.2.1 fN (by omega)
    refine r_iload_n (pc2 := 9) d_X_isRule_8 rfl rfl ?_
    refine q_if_lt (tgt := 32) (A := r.toInt) (pc2 := 12) d_X_isRule_9 rfl rfl (rfl) (fun c2 => ?_) (fun c2 => ?_)
    · refine r_iconst (v := nI 0) (pc2 := 33) d_X_isRule_32 rfl (by decide) ?_
      refine Run.ret (some (.int (nI 0))) d_X_isRule_33 ⟨_, rfl, by decide⟩ ?_
      exact ⟨by rw [bI_f (by (try simp only [efN, b0fN, b1fN, b2fN, b3fN, b4fN, b5fN, b6fN, b8fN, b9fN, Int.toNat_natCast] at *); first | omega | (repeat' constructor) <;> omega)]; rfl, rfl⟩
    · refine r_iload_n (pc2 := 13) d_X_isRule_12 rfl rfl ?_
      refine r_aload_n (x := some 0) (pc2 := 14) d_X_isRule_13 rfl rfl ?_
      refine q_getR (x := some 1) (pc2 := 17) d_X_isRule_14 rfl k_X_12 rfl (sh_0 hS) (rf_0_0 hR) ?_
      refine q_getR (x := some 5) (pc2 := 20) d_X_isRule_17 rfl k_X_211 rfl (sh_1 hS) (rf_1_1 hR) ?_
      refine r_iload_n (pc2 := 21) d_X_isRule_20 rfl rfl ?_
      refine q_aaload (q := fN) (x := some (fe 0 fN)) (pc2 := 22) d_X_isRule_21 rfl (sh_5 hS) (by decide) (by decide) (nI_toInt (by omega)) (by omega) (rf_fe hR (show 0 < 3 by decide) (show fN < 12 by omega)) ?_
      refine q_getI (x := nI nRfN) (pc2 := 25) d_X_isRule_22 rfl k_X_236 (by decide) (sh_fe0 hS (show 0 < 3 by decide) (show fN < 12 by omega)) (x4fN.trans a4fN) ?_
      refine q_icmp_ge (tgt := 32) (A := r.toInt) (B := ((nRfN : Nat) : Int)) (pc2 := 28) d_X_isRule_25 rfl rfl (rfl) (nI_toInt (by omega)) (fun c3 => ?_) (fun c3 => ?_)
      · refine r_iconst (v := nI 0) (pc2 := 33) d_X_isRule_32 rfl (by decide) ?_
        refine Run.ret (some (.int (nI 0))) d_X_isRule_33 ⟨_, rfl, by decide⟩ ?_
        exact ⟨by rw [bI_f (by (try simp only [efN, b0fN, b1fN, b2fN, b3fN, b4fN, b5fN, b6fN, b8fN, b9fN, Int.toNat_natCast] at *); first | omega | (repeat' constructor) <;> omega)]; rfl, rfl⟩
      · refine r_iconst (v := nI 1) (pc2 := 29) d_X_isRule_28 rfl (by decide) ?_
        refine r_goto (tgt := 33) d_X_isRule_29 rfl ?_
        refine Run.ret (some (.int (nI 1))) d_X_isRule_33 ⟨_, rfl, by decide⟩ ?_
        exact ⟨by rw [bI_t (by (try simp only [efN, b0fN, b1fN, b2fN, b3fN, b4fN, b5fN, b6fN, b8fN, b9fN, Int.toNat_natCast] at *); first | omega | (repeat' constructor) <;> omega)]; rfl, rfl⟩
theorem c_X_isVariant {d : Nat} {I : Nat → Nat → Int32} {R : Nat → Nat → Option Nat} {L : Nat → Nat → Int64} {sh : Nat → Nat × Nat} {N : Nat} (hS : ShOK sh) (hR : RfOK R) {tK tF tC tS : Nat → Int32} {nt : Nat} (hV : TV tK tF tC nt) (hV2 : TV2 tK tF tC tS nt) (hnt6 : nt ≤ 1000000) {G : Nat → Int32} {nP nF nS : Nat} (hW : WFA G nP nF nt) (hWT : WFT G nF nS) (hKW : WFK G nP nF) {rk : Nat → Nat} (hrk : RK G nF rk) (hD : DR tK tF tC tS I R sh nt 0 G nP nF nS) {f v : Int32} (hd : 2 ≤ d) : Me mi_X_isVariant d 0 0 [.ref 0, .int f, .int v] (I, R, L, sh, N) (some (.int (bI ((0 ≤ (f).toInt ∧ (f).toInt < (nF : Int)) ∧ 0 ≤ (v).toInt ∧ (v).toInt ≤ (G (174 + 84 * (f).toInt.toNat + 0)).toInt)))) (I, R, L, sh, N) := by
  obtain ⟨hPc, hP24, hFc, hF12, hWF, hWP⟩ := id hW
  refine Mt.of pn_X (Nat.le_of_ble_eq_true rfl) ?_
  show Run mi_X_isVariant d 0 0 0 [(0, .ref 0), (1, .int f), (2, .int v)] [] (I, R, L, sh, N) _
  refine r_aload_n (x := some 0) (pc2 := 1) d_X_isVariant_0 rfl rfl ?_
  refine r_iload_n (pc2 := 2) d_X_isVariant_1 rfl rfl ?_
  refine q_callv (M2 := mi_X_isFeature) (pc2 := 5) d_X_isVariant_2 rfl k_X_220 cm_X_isFeature cv_X_isFeature (sh_0 hS) (by decide) rfl rfl rfl (Nat.le_of_ble_eq_true rfl) (c_X_isFeature (f := f) hS hR hV hV2 hnt6 hW hWT hKW hrk hD) (d2 := d - 1) (by omega) (Nat.le_of_eq (Nat.zero_add _)) (Nat.le_of_eq (Nat.zero_add _)) ?_
  refine q_bif_eq (tgt := 32) (pc2 := 8) d_X_isVariant_5 rfl rfl (fun c1 => ?_) (fun c1 => ?_)
  · refine r_iconst (v := nI 0) (pc2 := 33) d_X_isVariant_32 rfl (by decide) ?_
    refine Run.ret (some (.int (nI 0))) d_X_isVariant_33 ⟨_, rfl, by decide⟩ ?_
    exact ⟨by rw [bI_f (by first | omega | (repeat' constructor) <;> omega)]; rfl, rfl⟩
  · obtain ⟨fN, hfN, rfl, efN⟩ := nat_of c1
    obtain ⟨tpfN, klfN, skfN, fbfN, nRfN, nNfN, nOfN, frfN, tofN, ⟨a0fN, b0fN, cc0fN, dd0fN⟩, ⟨a1fN, b1fN, cc1fN, dd1fN⟩, ⟨a2fN, b2fN, cc2fN, dd2fN⟩, ⟨a3fN, b3fN, cc3fN, dd3fN⟩, ⟨a4fN, b4fN, cc4fN, dd4fN⟩, ⟨a5fN, b5fN, cc5fN, dd5fN⟩, ⟨a6fN, b6fN, cc6fN, dd6fN⟩, ⟨a8fN, b8fN, cc8fN, dd8fN⟩, ⟨a9fN, b9fN, cc9fN, dd9fN⟩⟩ := wfn (hWF fN (by omega))
    obtain ⟨-, -, -, -, -, -, -, w7fN, -, -, wNfN, wRfN, wKfN, wOfN⟩ := hWF fN (by omega)
    obtain ⟨⟨x0fN, x1fN, x2fN, x3fN, x4fN, x5fN, x6fN, x7fN, x8fN⟩, xnfN, xofN, xkfN, xcfN, xrfN⟩ := hD.2.2.2.1 fN (by omega)
    refine r_iload_n (pc2 := 9) d_X_isVariant_8 rfl rfl ?_
    refine q_if_lt (tgt := 32) (A := v.toInt) (pc2 := 12) d_X_isVariant_9 rfl rfl (rfl) (fun c2 => ?_) (fun c2 => ?_)
    · refine r_iconst (v := nI 0) (pc2 := 33) d_X_isVariant_32 rfl (by decide) ?_
      refine Run.ret (some (.int (nI 0))) d_X_isVariant_33 ⟨_, rfl, by decide⟩ ?_
      exact ⟨by rw [bI_f (by (try simp only [efN, b0fN, b1fN, b2fN, b3fN, b4fN, b5fN, b6fN, b8fN, b9fN, Int.toNat_natCast] at *); first | omega | (repeat' constructor) <;> omega)]; rfl, rfl⟩
    · refine r_iload_n (pc2 := 13) d_X_isVariant_12 rfl rfl ?_
      refine r_aload_n (x := some 0) (pc2 := 14) d_X_isVariant_13 rfl rfl ?_
      refine q_getR (x := some 1) (pc2 := 17) d_X_isVariant_14 rfl k_X_12 rfl (sh_0 hS) (rf_0_0 hR) ?_
      refine q_getR (x := some 5) (pc2 := 20) d_X_isVariant_17 rfl k_X_211 rfl (sh_1 hS) (rf_1_1 hR) ?_
      refine r_iload_n (pc2 := 21) d_X_isVariant_20 rfl rfl ?_
      refine q_aaload (q := fN) (x := some (fe 0 fN)) (pc2 := 22) d_X_isVariant_21 rfl (sh_5 hS) (by decide) (by decide) (nI_toInt (by omega)) (by omega) (rf_fe hR (show 0 < 3 by decide) (show fN < 12 by omega)) ?_
      refine q_getI (x := nI tpfN) (pc2 := 25) d_X_isVariant_22 rfl k_X_215 (by decide) (sh_fe0 hS (show 0 < 3 by decide) (show fN < 12 by omega)) (x0fN.trans a0fN) ?_
      refine q_icmp_gt (tgt := 32) (A := v.toInt) (B := ((tpfN : Nat) : Int)) (pc2 := 28) d_X_isVariant_25 rfl rfl (rfl) (nI_toInt (by omega)) (fun c3 => ?_) (fun c3 => ?_)
      · refine r_iconst (v := nI 0) (pc2 := 33) d_X_isVariant_32 rfl (by decide) ?_
        refine Run.ret (some (.int (nI 0))) d_X_isVariant_33 ⟨_, rfl, by decide⟩ ?_
        exact ⟨by rw [bI_f (by (try simp only [efN, b0fN, b1fN, b2fN, b3fN, b4fN, b5fN, b6fN, b8fN, b9fN, Int.toNat_natCast] at *); first | omega | (repeat' constructor) <;> omega)]; rfl, rfl⟩
      · refine r_iconst (v := nI 1) (pc2 := 29) d_X_isVariant_28 rfl (by decide) ?_
        refine r_goto (tgt := 33) d_X_isVariant_29 rfl ?_
        refine Run.ret (some (.int (nI 1))) d_X_isVariant_33 ⟨_, rfl, by decide⟩ ?_
        exact ⟨by rw [bI_t (by (try simp only [efN, b0fN, b1fN, b2fN, b3fN, b4fN, b5fN, b6fN, b8fN, b9fN, Int.toNat_natCast] at *); first | omega | (repeat' constructor) <;> omega)]; rfl, rfl⟩
theorem c_X_isPlaceOfPart {d : Nat} {I : Nat → Nat → Int32} {R : Nat → Nat → Option Nat} {L : Nat → Nat → Int64} {sh : Nat → Nat × Nat} {N : Nat} (hS : ShOK sh) (hR : RfOK R) {tK tF tC tS : Nat → Int32} {nt : Nat} (hV : TV tK tF tC nt) (hV2 : TV2 tK tF tC tS nt) (hnt6 : nt ≤ 1000000) {G : Nat → Int32} {nP nF nS : Nat} (hW : WFA G nP nF nt) (hWT : WFT G nF nS) (hKW : WFK G nP nF) {rk : Nat → Nat} (hrk : RK G nF rk) (hD : DR tK tF tC tS I R sh nt 0 G nP nF nS) {f r v : Int32} (hd : 4 ≤ d) : Me mi_X_isPlaceOfPart d 0 0 [.ref 0, .int f, .int r, .int v] (I, R, L, sh, N) (some (.int (bI (((0 ≤ (f).toInt ∧ (f).toInt < (nF : Int)) ∧ 0 ≤ (r).toInt ∧ (r).toInt < (G (174 + 84 * (f).toInt.toNat + 4)).toInt) ∧ 1 ≤ (v).toInt ∧ (v).toInt ≤ (G (174 + 84 * (f).toInt.toNat + 0)).toInt)))) (I, R, L, sh, N) := by
  obtain ⟨hPc, hP24, hFc, hF12, hWF, hWP⟩ := id hW
  refine Mt.of pn_X (Nat.le_of_ble_eq_true rfl) ?_
  show Run mi_X_isPlaceOfPart d 0 0 0 [(0, .ref 0), (1, .int f), (2, .int r), (3, .int v)] [] (I, R, L, sh, N) _
  refine r_aload_n (x := some 0) (pc2 := 1) d_X_isPlaceOfPart_0 rfl rfl ?_
  refine r_iload_n (pc2 := 2) d_X_isPlaceOfPart_1 rfl rfl ?_
  refine r_iload_n (pc2 := 3) d_X_isPlaceOfPart_2 rfl rfl ?_
  refine q_callv (M2 := mi_X_isRule) (pc2 := 6) d_X_isPlaceOfPart_3 rfl k_X_122 cm_X_isRule cv_X_isRule (sh_0 hS) (by decide) rfl rfl rfl (Nat.le_of_ble_eq_true rfl) (c_X_isRule (f := f) (r := r) hS hR hV hV2 hnt6 hW hWT hKW hrk hD (by omega)) (d2 := d - 1) (by omega) (Nat.le_of_eq (Nat.zero_add _)) (Nat.le_of_eq (Nat.zero_add _)) ?_
  refine q_bif_eq (tgt := 26) (pc2 := 9) d_X_isPlaceOfPart_6 rfl rfl (fun c1 => ?_) (fun c1 => ?_)
  · refine r_iconst (v := nI 0) (pc2 := 27) d_X_isPlaceOfPart_26 rfl (by decide) ?_
    refine Run.ret (some (.int (nI 0))) d_X_isPlaceOfPart_27 ⟨_, rfl, by decide⟩ ?_
    exact ⟨by rw [bI_f (by first | omega | (repeat' constructor) <;> omega)]; rfl, rfl⟩
  · obtain ⟨fN, hfN, rfl, efN⟩ := nat_of c1.1
    obtain ⟨tpfN, klfN, skfN, fbfN, nRfN, nNfN, nOfN, frfN, tofN, ⟨a0fN, b0fN, cc0fN, dd0fN⟩, ⟨a1fN, b1fN, cc1fN, dd1fN⟩, ⟨a2fN, b2fN, cc2fN, dd2fN⟩, ⟨a3fN, b3fN, cc3fN, dd3fN⟩, ⟨a4fN, b4fN, cc4fN, dd4fN⟩, ⟨a5fN, b5fN, cc5fN, dd5fN⟩, ⟨a6fN, b6fN, cc6fN, dd6fN⟩, ⟨a8fN, b8fN, cc8fN, dd8fN⟩, ⟨a9fN, b9fN, cc9fN, dd9fN⟩⟩ := wfn (hWF fN (by omega))
    obtain ⟨-, -, -, -, -, -, -, w7fN, -, -, wNfN, wRfN, wKfN, wOfN⟩ := hWF fN (by omega)
    obtain ⟨⟨x0fN, x1fN, x2fN, x3fN, x4fN, x5fN, x6fN, x7fN, x8fN⟩, xnfN, xofN, xkfN, xcfN, xrfN⟩ := hD.2.2.2.1 fN (by omega)
    simp only [efN, Int.toNat_natCast, b4fN] at c1
    obtain ⟨rN, hrN, rfl, erN⟩ := nat_of c1.2
    obtain ⟨rtfNrN, rafNrN, rbfNrN, rcfNrN, ⟨t0fNrN, t1fNrN, t2fNrN⟩, ⟨u0fNrN, u1fNrN, u2fNrN⟩, ⟨v0fNrN, v1fNrN, v2fNrN⟩, ⟨z0fNrN, z1fNrN, z2fNrN⟩⟩ := wrn (wRfN rN (by omega))
    obtain ⟨rffNrN, rsfNrN, cfNrN, mfNrN, bbfNrN, rrfNrN, cofNrN, bnfNrN, ttfNrN⟩ := xrfN rN (by unfold nRof; rw [b4fN, Int.toNat_natCast]; omega)
    have cmfNrN := cofNrN.2.2.1
    have c781fNrN := cofNrN.2.2.2.1
    refine r_aload_n (x := some 0) (pc2 := 10) d_X_isPlaceOfPart_9 rfl rfl ?_
    refine r_iload_n (pc2 := 11) d_X_isPlaceOfPart_10 rfl rfl ?_
    refine r_iload_n (pc2 := 12) d_X_isPlaceOfPart_11 rfl rfl ?_
    refine q_callv (M2 := mi_X_isVariant) (pc2 := 15) d_X_isPlaceOfPart_12 rfl k_X_271 cm_X_isVariant cv_X_isVariant (sh_0 hS) (by decide) rfl rfl rfl (Nat.le_of_ble_eq_true rfl) (c_X_isVariant (f := nI fN) (v := v) hS hR hV hV2 hnt6 hW hWT hKW hrk hD (by omega)) (d2 := d - 1) (by omega) (Nat.le_of_eq (Nat.zero_add _)) (Nat.le_of_eq (Nat.zero_add _)) ?_
    refine q_bif_eq (tgt := 26) (pc2 := 18) d_X_isPlaceOfPart_15 rfl rfl (fun c2 => ?_) (fun c2 => ?_)
    · refine r_iconst (v := nI 0) (pc2 := 27) d_X_isPlaceOfPart_26 rfl (by decide) ?_
      refine Run.ret (some (.int (nI 0))) d_X_isPlaceOfPart_27 ⟨_, rfl, by decide⟩ ?_
      exact ⟨by rw [bI_f (by (try simp only [efN, b0fN, b1fN, b2fN, b3fN, b4fN, b5fN, b6fN, b8fN, b9fN, erN, t1fNrN, u1fNrN, v1fNrN, z1fNrN, Int.toNat_natCast] at *); first | omega | (repeat' constructor) <;> omega)]; rfl, rfl⟩
    · simp only [efN, Int.toNat_natCast, b0fN] at c2
      obtain ⟨vN, hvN, gvN, rfl, evN⟩ := nat_of' (Int.le_refl 0) c2.2
      refine r_iload_n (pc2 := 19) d_X_isPlaceOfPart_18 rfl rfl ?_
      refine q_if_le (tgt := 26) (A := ((vN : Nat) : Int)) (pc2 := 22) d_X_isPlaceOfPart_19 rfl rfl (nI_toInt (by omega)) (fun c3 => ?_) (fun c3 => ?_)
      · refine r_iconst (v := nI 0) (pc2 := 27) d_X_isPlaceOfPart_26 rfl (by decide) ?_
        refine Run.ret (some (.int (nI 0))) d_X_isPlaceOfPart_27 ⟨_, rfl, by decide⟩ ?_
        exact ⟨by rw [bI_f (by (try simp only [efN, b0fN, b1fN, b2fN, b3fN, b4fN, b5fN, b6fN, b8fN, b9fN, erN, t1fNrN, u1fNrN, v1fNrN, z1fNrN, evN, Int.toNat_natCast] at *); first | omega | (repeat' constructor) <;> omega)]; rfl, rfl⟩
      · refine r_iconst (v := nI 1) (pc2 := 23) d_X_isPlaceOfPart_22 rfl (by decide) ?_
        refine r_goto (tgt := 27) d_X_isPlaceOfPart_23 rfl ?_
        refine Run.ret (some (.int (nI 1))) d_X_isPlaceOfPart_27 ⟨_, rfl, by decide⟩ ?_
        exact ⟨by rw [bI_t (by (try simp only [efN, b0fN, b1fN, b2fN, b3fN, b4fN, b5fN, b6fN, b8fN, b9fN, erN, t1fNrN, u1fNrN, v1fNrN, z1fNrN, evN, Int.toNat_natCast] at *); first | omega | (repeat' constructor) <;> omega)]; rfl, rfl⟩
theorem c_X_isShelf {d : Nat} {h : HS} {s : Int32} : Me mi_X_isShelf d 0 0 [.ref 0, .int s] h (some (.int (bI (0 ≤ s.toInt ∧ s.toInt ≤ 7)))) h := by
  refine Mt.of pn_X (Nat.le_of_ble_eq_true rfl) ?_
  show Run mi_X_isShelf d 0 0 0 [(0, .ref 0), (1, .int s)] [] h _
  refine r_iload_n (pc2 := 1) d_X_isShelf_0 rfl rfl ?_
  refine q_if_lt (tgt := 14) (A := s.toInt) (pc2 := 4) d_X_isShelf_1 rfl rfl (rfl) (fun c1 => ?_) (fun c1 => ?_)
  · refine r_iconst (v := nI 0) (pc2 := 15) d_X_isShelf_14 rfl (by decide) ?_
    refine Run.ret (some (.int (nI 0))) d_X_isShelf_15 ⟨_, rfl, by decide⟩ ?_
    exact ⟨by rw [bI_f (by first | omega | (repeat' constructor) <;> omega)]; rfl, rfl⟩
  · refine r_iload_n (pc2 := 5) d_X_isShelf_4 rfl rfl ?_
    refine r_bipush (v := nI 8) (pc2 := 7) d_X_isShelf_5 rfl (by decide) ?_
    refine q_icmp_ge (tgt := 14) (A := s.toInt) (B := (8 : Int)) (pc2 := 10) d_X_isShelf_7 rfl rfl (rfl) (nI_toInt (by omega)) (fun c2 => ?_) (fun c2 => ?_)
    · refine r_iconst (v := nI 0) (pc2 := 15) d_X_isShelf_14 rfl (by decide) ?_
      refine Run.ret (some (.int (nI 0))) d_X_isShelf_15 ⟨_, rfl, by decide⟩ ?_
      exact ⟨by rw [bI_f (by first | omega | (repeat' constructor) <;> omega)]; rfl, rfl⟩
    · refine r_iconst (v := nI 1) (pc2 := 11) d_X_isShelf_10 rfl (by decide) ?_
      refine r_goto (tgt := 15) d_X_isShelf_11 rfl ?_
      refine Run.ret (some (.int (nI 1))) d_X_isShelf_15 ⟨_, rfl, by decide⟩ ?_
      exact ⟨by rw [bI_t (by first | omega | (repeat' constructor) <;> omega)]; rfl, rfl⟩
theorem c_X_isKey {d : Nat} {h : HS} {s : Int32} : Me mi_X_isKey d 0 0 [.ref 0, .int s] h (some (.int (bI (0 ≤ s.toInt ∧ s.toInt ≤ 999999)))) h := by
  refine Mt.of pn_X (Nat.le_of_ble_eq_true rfl) ?_
  show Run mi_X_isKey d 0 0 0 [(0, .ref 0), (1, .int s)] [] h _
  refine r_iload_n (pc2 := 1) d_X_isKey_0 rfl rfl ?_
  refine q_if_lt (tgt := 15) (A := s.toInt) (pc2 := 4) d_X_isKey_1 rfl rfl (rfl) (fun c1 => ?_) (fun c1 => ?_)
  · refine r_iconst (v := nI 0) (pc2 := 16) d_X_isKey_15 rfl (by decide) ?_
    refine Run.ret (some (.int (nI 0))) d_X_isKey_16 ⟨_, rfl, by decide⟩ ?_
    exact ⟨by rw [bI_f (by first | omega | (repeat' constructor) <;> omega)]; rfl, rfl⟩
  · refine r_iload_n (pc2 := 5) d_X_isKey_4 rfl rfl ?_
    refine r_ldcw (pc2 := 8) d_X_isKey_5 rfl k_X_419 ?_
    refine q_top (y := nI 999999) (by decide) ?_
    refine q_icmp_gt (tgt := 15) (A := s.toInt) (B := (999999 : Int)) (pc2 := 11) d_X_isKey_8 rfl rfl (rfl) (nI_toInt (by omega)) (fun c2 => ?_) (fun c2 => ?_)
    · refine r_iconst (v := nI 0) (pc2 := 16) d_X_isKey_15 rfl (by decide) ?_
      refine Run.ret (some (.int (nI 0))) d_X_isKey_16 ⟨_, rfl, by decide⟩ ?_
      exact ⟨by rw [bI_f (by first | omega | (repeat' constructor) <;> omega)]; rfl, rfl⟩
    · refine r_iconst (v := nI 1) (pc2 := 12) d_X_isKey_11 rfl (by decide) ?_
      refine r_goto (tgt := 16) d_X_isKey_12 rfl ?_
      refine Run.ret (some (.int (nI 1))) d_X_isKey_16 ⟨_, rfl, by decide⟩ ?_
      exact ⟨by rw [bI_t (by first | omega | (repeat' constructor) <;> omega)]; rfl, rfl⟩
theorem c_X_isPart {d : Nat} {h : HS} {s : Int32} : Me mi_X_isPart d 0 0 [.ref 0, .int s] h (some (.int (bI (0 ≤ s.toInt ∧ s.toInt ≤ 333)))) h := by
  refine Mt.of pn_X (Nat.le_of_ble_eq_true rfl) ?_
  show Run mi_X_isPart d 0 0 0 [(0, .ref 0), (1, .int s)] [] h _
  refine r_iload_n (pc2 := 1) d_X_isPart_0 rfl rfl ?_
  refine q_if_lt (tgt := 15) (A := s.toInt) (pc2 := 4) d_X_isPart_1 rfl rfl (rfl) (fun c1 => ?_) (fun c1 => ?_)
  · refine r_iconst (v := nI 0) (pc2 := 16) d_X_isPart_15 rfl (by decide) ?_
    refine Run.ret (some (.int (nI 0))) d_X_isPart_16 ⟨_, rfl, by decide⟩ ?_
    exact ⟨by rw [bI_f (by first | omega | (repeat' constructor) <;> omega)]; rfl, rfl⟩
  · refine r_iload_n (pc2 := 5) d_X_isPart_4 rfl rfl ?_
    refine r_sipush (v := nI 333) (pc2 := 8) d_X_isPart_5 rfl (by decide) ?_
    refine q_icmp_gt (tgt := 15) (A := s.toInt) (B := (333 : Int)) (pc2 := 11) d_X_isPart_8 rfl rfl (rfl) (nI_toInt (by omega)) (fun c2 => ?_) (fun c2 => ?_)
    · refine r_iconst (v := nI 0) (pc2 := 16) d_X_isPart_15 rfl (by decide) ?_
      refine Run.ret (some (.int (nI 0))) d_X_isPart_16 ⟨_, rfl, by decide⟩ ?_
      exact ⟨by rw [bI_f (by first | omega | (repeat' constructor) <;> omega)]; rfl, rfl⟩
    · refine r_iconst (v := nI 1) (pc2 := 12) d_X_isPart_11 rfl (by decide) ?_
      refine r_goto (tgt := 16) d_X_isPart_12 rfl ?_
      refine Run.ret (some (.int (nI 1))) d_X_isPart_16 ⟨_, rfl, by decide⟩ ?_
      exact ⟨by rw [bI_t (by first | omega | (repeat' constructor) <;> omega)]; rfl, rfl⟩
theorem c_X_refuse_0 {d : Nat} {J : Nat → Nat → Int32} {R : Nat → Nat → Option Nat} {L : Nat → Nat → Int64} {sh : Nat → Nat × Nat} {N : Nat} (hS : ShOK sh) (hR : RfOK R) : Me mi_X_refuse d 0 0 [.ref 0, .int (-32 : Int32)] (J, R, L, sh, N) (some (.int (-32 : Int32))) (u2 J 744 0 (J 744 0 + nI 1), R, L, sh, N) := by
  refine Mt.of pn_X (Nat.le_of_ble_eq_true rfl) ?_
  show Run mi_X_refuse d 0 0 0 [(0, .ref 0), (1, .int (-32 : Int32))] [] (J, R, L, sh, N) _
  refine r_bipush (v := (-32 : Int32)) (pc2 := 2) d_X_refuse_0 rfl (by decide) ?_
  refine r_iload_n (pc2 := 3) d_X_refuse_2 rfl rfl ?_
  refine r_isub (pc2 := 4) d_X_refuse_3 rfl ?_
  refine q_top (y := nI 0) (by decide) ?_
  refine r_istore_n (pc2 := 5) d_X_refuse_4 rfl rfl (Nat.le_of_ble_eq_true rfl) ?_
  refine r_iload_n (pc2 := 6) d_X_refuse_5 rfl rfl ?_
  refine q_if_lt (tgt := 24) (A := (0 : Int)) (pc2 := 9) d_X_refuse_6 rfl rfl (nI_toInt (by omega)) (fun c1 => ?_) (fun c1 => ?_)
  · exfalso; omega
  refine r_iload_n (pc2 := 10) d_X_refuse_9 rfl rfl ?_
  refine r_iconst (v := nI 5) (pc2 := 11) d_X_refuse_10 rfl (by decide) ?_
  refine q_icmp_ge (tgt := 24) (A := (0 : Int)) (B := (5 : Int)) (pc2 := 14) d_X_refuse_11 rfl rfl (nI_toInt (by omega)) (nI_toInt (by omega)) (fun c2 => ?_) (fun c2 => ?_)
  · exfalso; omega
  refine r_aload_n (x := some 0) (pc2 := 15) d_X_refuse_14 rfl rfl ?_
  refine q_getR (x := some 744) (pc2 := 18) d_X_refuse_15 rfl k_X_67 rfl (sh_0 hS) (rf_0_12 hR) ?_
  refine r_iload_n (pc2 := 19) d_X_refuse_18 rfl rfl ?_
  refine r_dup2 (pc2 := 20) d_X_refuse_19 rfl rfl rfl ?_
  refine q_iaload (q := 0) (x := J 744 0) (pc2 := 21) d_X_refuse_20 rfl (sh_744 hS) (nI_toInt (by omega)) (by omega) rfl ?_
  refine r_iconst (v := nI 1) (pc2 := 22) d_X_refuse_21 rfl (by decide) ?_
  refine r_iadd (pc2 := 23) d_X_refuse_22 rfl ?_
  refine q_iastore (q := 0) (pc2 := 24) d_X_refuse_23 rfl (sh_744 hS) (nI_toInt (by omega)) (by omega) (fun I3 hI3 => ?_)
  refine r_iload_n (pc2 := 25) d_X_refuse_24 rfl rfl ?_
  refine Run.ret (some (.int ((-32 : Int32)))) d_X_refuse_25 ⟨_, rfl⟩ ?_
  exact ⟨rfl, by rw [hI3]⟩
theorem c_X_refuse_1 {d : Nat} {J : Nat → Nat → Int32} {R : Nat → Nat → Option Nat} {L : Nat → Nat → Int64} {sh : Nat → Nat × Nat} {N : Nat} (hS : ShOK sh) (hR : RfOK R) : Me mi_X_refuse d 0 0 [.ref 0, .int (-33 : Int32)] (J, R, L, sh, N) (some (.int (-33 : Int32))) (u2 J 744 1 (J 744 1 + nI 1), R, L, sh, N) := by
  refine Mt.of pn_X (Nat.le_of_ble_eq_true rfl) ?_
  show Run mi_X_refuse d 0 0 0 [(0, .ref 0), (1, .int (-33 : Int32))] [] (J, R, L, sh, N) _
  refine r_bipush (v := (-32 : Int32)) (pc2 := 2) d_X_refuse_0 rfl (by decide) ?_
  refine r_iload_n (pc2 := 3) d_X_refuse_2 rfl rfl ?_
  refine r_isub (pc2 := 4) d_X_refuse_3 rfl ?_
  refine q_top (y := nI 1) (by decide) ?_
  refine r_istore_n (pc2 := 5) d_X_refuse_4 rfl rfl (Nat.le_of_ble_eq_true rfl) ?_
  refine r_iload_n (pc2 := 6) d_X_refuse_5 rfl rfl ?_
  refine q_if_lt (tgt := 24) (A := (1 : Int)) (pc2 := 9) d_X_refuse_6 rfl rfl (nI_toInt (by omega)) (fun c1 => ?_) (fun c1 => ?_)
  · exfalso; omega
  refine r_iload_n (pc2 := 10) d_X_refuse_9 rfl rfl ?_
  refine r_iconst (v := nI 5) (pc2 := 11) d_X_refuse_10 rfl (by decide) ?_
  refine q_icmp_ge (tgt := 24) (A := (1 : Int)) (B := (5 : Int)) (pc2 := 14) d_X_refuse_11 rfl rfl (nI_toInt (by omega)) (nI_toInt (by omega)) (fun c2 => ?_) (fun c2 => ?_)
  · exfalso; omega
  refine r_aload_n (x := some 0) (pc2 := 15) d_X_refuse_14 rfl rfl ?_
  refine q_getR (x := some 744) (pc2 := 18) d_X_refuse_15 rfl k_X_67 rfl (sh_0 hS) (rf_0_12 hR) ?_
  refine r_iload_n (pc2 := 19) d_X_refuse_18 rfl rfl ?_
  refine r_dup2 (pc2 := 20) d_X_refuse_19 rfl rfl rfl ?_
  refine q_iaload (q := 1) (x := J 744 1) (pc2 := 21) d_X_refuse_20 rfl (sh_744 hS) (nI_toInt (by omega)) (by omega) rfl ?_
  refine r_iconst (v := nI 1) (pc2 := 22) d_X_refuse_21 rfl (by decide) ?_
  refine r_iadd (pc2 := 23) d_X_refuse_22 rfl ?_
  refine q_iastore (q := 1) (pc2 := 24) d_X_refuse_23 rfl (sh_744 hS) (nI_toInt (by omega)) (by omega) (fun I3 hI3 => ?_)
  refine r_iload_n (pc2 := 25) d_X_refuse_24 rfl rfl ?_
  refine Run.ret (some (.int ((-33 : Int32)))) d_X_refuse_25 ⟨_, rfl⟩ ?_
  exact ⟨rfl, by rw [hI3]⟩
theorem c_X_refuse_2 {d : Nat} {J : Nat → Nat → Int32} {R : Nat → Nat → Option Nat} {L : Nat → Nat → Int64} {sh : Nat → Nat × Nat} {N : Nat} (hS : ShOK sh) (hR : RfOK R) : Me mi_X_refuse d 0 0 [.ref 0, .int (-34 : Int32)] (J, R, L, sh, N) (some (.int (-34 : Int32))) (u2 J 744 2 (J 744 2 + nI 1), R, L, sh, N) := by
  refine Mt.of pn_X (Nat.le_of_ble_eq_true rfl) ?_
  show Run mi_X_refuse d 0 0 0 [(0, .ref 0), (1, .int (-34 : Int32))] [] (J, R, L, sh, N) _
  refine r_bipush (v := (-32 : Int32)) (pc2 := 2) d_X_refuse_0 rfl (by decide) ?_
  refine r_iload_n (pc2 := 3) d_X_refuse_2 rfl rfl ?_
  refine r_isub (pc2 := 4) d_X_refuse_3 rfl ?_
  refine q_top (y := nI 2) (by decide) ?_
  refine r_istore_n (pc2 := 5) d_X_refuse_4 rfl rfl (Nat.le_of_ble_eq_true rfl) ?_
  refine r_iload_n (pc2 := 6) d_X_refuse_5 rfl rfl ?_
  refine q_if_lt (tgt := 24) (A := (2 : Int)) (pc2 := 9) d_X_refuse_6 rfl rfl (nI_toInt (by omega)) (fun c1 => ?_) (fun c1 => ?_)
  · exfalso; omega
  refine r_iload_n (pc2 := 10) d_X_refuse_9 rfl rfl ?_
  refine r_iconst (v := nI 5) (pc2 := 11) d_X_refuse_10 rfl (by decide) ?_
  refine q_icmp_ge (tgt := 24) (A := (2 : Int)) (B := (5 : Int)) (pc2 := 14) d_X_refuse_11 rfl rfl (nI_toInt (by omega)) (nI_toInt (by omega)) (fun c2 => ?_) (fun c2 => ?_)
  · exfalso; omega
  refine r_aload_n (x := some 0) (pc2 := 15) d_X_refuse_14 rfl rfl ?_
  refine q_getR (x := some 744) (pc2 := 18) d_X_refuse_15 rfl k_X_67 rfl (sh_0 hS) (rf_0_12 hR) ?_
  refine r_iload_n (pc2 := 19) d_X_refuse_18 rfl rfl ?_
  refine r_dup2 (pc2 := 20) d_X_refuse_19 rfl rfl rfl ?_
  refine q_iaload (q := 2) (x := J 744 2) (pc2 := 21) d_X_refuse_20 rfl (sh_744 hS) (nI_toInt (by omega)) (by omega) rfl ?_
  refine r_iconst (v := nI 1) (pc2 := 22) d_X_refuse_21 rfl (by decide) ?_
  refine r_iadd (pc2 := 23) d_X_refuse_22 rfl ?_
  refine q_iastore (q := 2) (pc2 := 24) d_X_refuse_23 rfl (sh_744 hS) (nI_toInt (by omega)) (by omega) (fun I3 hI3 => ?_)
  refine r_iload_n (pc2 := 25) d_X_refuse_24 rfl rfl ?_
  refine Run.ret (some (.int ((-34 : Int32)))) d_X_refuse_25 ⟨_, rfl⟩ ?_
  exact ⟨rfl, by rw [hI3]⟩
theorem c_X_refuse_3 {d : Nat} {J : Nat → Nat → Int32} {R : Nat → Nat → Option Nat} {L : Nat → Nat → Int64} {sh : Nat → Nat × Nat} {N : Nat} (hS : ShOK sh) (hR : RfOK R) : Me mi_X_refuse d 0 0 [.ref 0, .int (-35 : Int32)] (J, R, L, sh, N) (some (.int (-35 : Int32))) (u2 J 744 3 (J 744 3 + nI 1), R, L, sh, N) := by
  refine Mt.of pn_X (Nat.le_of_ble_eq_true rfl) ?_
  show Run mi_X_refuse d 0 0 0 [(0, .ref 0), (1, .int (-35 : Int32))] [] (J, R, L, sh, N) _
  refine r_bipush (v := (-32 : Int32)) (pc2 := 2) d_X_refuse_0 rfl (by decide) ?_
  refine r_iload_n (pc2 := 3) d_X_refuse_2 rfl rfl ?_
  refine r_isub (pc2 := 4) d_X_refuse_3 rfl ?_
  refine q_top (y := nI 3) (by decide) ?_
  refine r_istore_n (pc2 := 5) d_X_refuse_4 rfl rfl (Nat.le_of_ble_eq_true rfl) ?_
  refine r_iload_n (pc2 := 6) d_X_refuse_5 rfl rfl ?_
  refine q_if_lt (tgt := 24) (A := (3 : Int)) (pc2 := 9) d_X_refuse_6 rfl rfl (nI_toInt (by omega)) (fun c1 => ?_) (fun c1 => ?_)
  · exfalso; omega
  refine r_iload_n (pc2 := 10) d_X_refuse_9 rfl rfl ?_
  refine r_iconst (v := nI 5) (pc2 := 11) d_X_refuse_10 rfl (by decide) ?_
  refine q_icmp_ge (tgt := 24) (A := (3 : Int)) (B := (5 : Int)) (pc2 := 14) d_X_refuse_11 rfl rfl (nI_toInt (by omega)) (nI_toInt (by omega)) (fun c2 => ?_) (fun c2 => ?_)
  · exfalso; omega
  refine r_aload_n (x := some 0) (pc2 := 15) d_X_refuse_14 rfl rfl ?_
  refine q_getR (x := some 744) (pc2 := 18) d_X_refuse_15 rfl k_X_67 rfl (sh_0 hS) (rf_0_12 hR) ?_
  refine r_iload_n (pc2 := 19) d_X_refuse_18 rfl rfl ?_
  refine r_dup2 (pc2 := 20) d_X_refuse_19 rfl rfl rfl ?_
  refine q_iaload (q := 3) (x := J 744 3) (pc2 := 21) d_X_refuse_20 rfl (sh_744 hS) (nI_toInt (by omega)) (by omega) rfl ?_
  refine r_iconst (v := nI 1) (pc2 := 22) d_X_refuse_21 rfl (by decide) ?_
  refine r_iadd (pc2 := 23) d_X_refuse_22 rfl ?_
  refine q_iastore (q := 3) (pc2 := 24) d_X_refuse_23 rfl (sh_744 hS) (nI_toInt (by omega)) (by omega) (fun I3 hI3 => ?_)
  refine r_iload_n (pc2 := 25) d_X_refuse_24 rfl rfl ?_
  refine Run.ret (some (.int ((-35 : Int32)))) d_X_refuse_25 ⟨_, rfl⟩ ?_
  exact ⟨rfl, by rw [hI3]⟩
theorem c_X_refuse_4 {d : Nat} {J : Nat → Nat → Int32} {R : Nat → Nat → Option Nat} {L : Nat → Nat → Int64} {sh : Nat → Nat × Nat} {N : Nat} (hS : ShOK sh) (hR : RfOK R) : Me mi_X_refuse d 0 0 [.ref 0, .int (-36 : Int32)] (J, R, L, sh, N) (some (.int (-36 : Int32))) (u2 J 744 4 (J 744 4 + nI 1), R, L, sh, N) := by
  refine Mt.of pn_X (Nat.le_of_ble_eq_true rfl) ?_
  show Run mi_X_refuse d 0 0 0 [(0, .ref 0), (1, .int (-36 : Int32))] [] (J, R, L, sh, N) _
  refine r_bipush (v := (-32 : Int32)) (pc2 := 2) d_X_refuse_0 rfl (by decide) ?_
  refine r_iload_n (pc2 := 3) d_X_refuse_2 rfl rfl ?_
  refine r_isub (pc2 := 4) d_X_refuse_3 rfl ?_
  refine q_top (y := nI 4) (by decide) ?_
  refine r_istore_n (pc2 := 5) d_X_refuse_4 rfl rfl (Nat.le_of_ble_eq_true rfl) ?_
  refine r_iload_n (pc2 := 6) d_X_refuse_5 rfl rfl ?_
  refine q_if_lt (tgt := 24) (A := (4 : Int)) (pc2 := 9) d_X_refuse_6 rfl rfl (nI_toInt (by omega)) (fun c1 => ?_) (fun c1 => ?_)
  · exfalso; omega
  refine r_iload_n (pc2 := 10) d_X_refuse_9 rfl rfl ?_
  refine r_iconst (v := nI 5) (pc2 := 11) d_X_refuse_10 rfl (by decide) ?_
  refine q_icmp_ge (tgt := 24) (A := (4 : Int)) (B := (5 : Int)) (pc2 := 14) d_X_refuse_11 rfl rfl (nI_toInt (by omega)) (nI_toInt (by omega)) (fun c2 => ?_) (fun c2 => ?_)
  · exfalso; omega
  refine r_aload_n (x := some 0) (pc2 := 15) d_X_refuse_14 rfl rfl ?_
  refine q_getR (x := some 744) (pc2 := 18) d_X_refuse_15 rfl k_X_67 rfl (sh_0 hS) (rf_0_12 hR) ?_
  refine r_iload_n (pc2 := 19) d_X_refuse_18 rfl rfl ?_
  refine r_dup2 (pc2 := 20) d_X_refuse_19 rfl rfl rfl ?_
  refine q_iaload (q := 4) (x := J 744 4) (pc2 := 21) d_X_refuse_20 rfl (sh_744 hS) (nI_toInt (by omega)) (by omega) rfl ?_
  refine r_iconst (v := nI 1) (pc2 := 22) d_X_refuse_21 rfl (by decide) ?_
  refine r_iadd (pc2 := 23) d_X_refuse_22 rfl ?_
  refine q_iastore (q := 4) (pc2 := 24) d_X_refuse_23 rfl (sh_744 hS) (nI_toInt (by omega)) (by omega) (fun I3 hI3 => ?_)
  refine r_iload_n (pc2 := 25) d_X_refuse_24 rfl rfl ?_
  refine Run.ret (some (.int ((-36 : Int32)))) d_X_refuse_25 ⟨_, rfl⟩ ?_
  exact ⟨rfl, by rw [hI3]⟩
theorem l_Pe_find {d : Nat} {I : Nat → Nat → Int32} {R : Nat → Nat → Option Nat} {L : Nat → Nat → Int64} {sh : Nat → Nat × Nat} {N : Nat} (hS : ShOK sh) (hR : RfOK R) {tK tF tC tS : Nat → Int32} {nt : Nat} (hV : TV tK tF tC nt) (hV2 : TV2 tK tF tC tS nt) (hnt6 : nt ≤ 1000000) {G : Nat → Int32} {nP nF nS : Nat} (hW : WFA G nP nF nt) (hWT : WFT G nF nS) (hKW : WFK G nP nF) {rk : Nat → Nat} (hrk : RK G nF rk) (hD : DR tK tF tC tS I R sh nt 0 G nP nF nS) {x : Int64} {Q : Option Value → HS → Prop} (hq : Q (some (.int (vo (fL G nP x)))) (I, R, L, sh, N)) : ∀ (n_ : Nat) (i : Nat), nP - i = n_ → (i ≤ nP) → (∀ j, j < i → (G (6 + 2 * j)).toInt ≠ x.toInt) → Run mi_Pe_find d 0 0 2 [(0, .ref 2), (1, .long x), (3, .int (nI i))] [] (I, R, L, sh, N) Q := by
  intro n_
  induction n_ using Nat.strongRecOn with | ind n_ ih_ => ?_
  intro i hn_ v0_ v1_
  obtain ⟨hPc, hP24, hFc, hF12, hWF, hWP⟩ := id hW
  refine r_iload_n (pc2 := 3) d_Pe_find_2 rfl rfl ?_
  refine r_aload_n (x := some 2) (pc2 := 4) d_Pe_find_3 rfl rfl ?_
  refine q_getI (x := nI nP) (pc2 := 7) d_Pe_find_4 rfl k_Pe_18 (by decide) (sh_2 hS) hD.1.1 ?_
  refine q_icmp_ge (tgt := 30) (A := ((i : Nat) : Int)) (B := ((nP : Nat) : Int)) (pc2 := 10) d_Pe_find_7 rfl rfl (nI_toInt (by omega)) (nI_toInt (by omega)) (fun c1 => ?_) (fun c1 => ?_)
  · refine r_iconst (v := (-1 : Int32)) (pc2 := 31) d_Pe_find_30 rfl (by decide) ?_
    refine Run.ret (some (.int ((-1 : Int32)))) d_Pe_find_31 ⟨_, rfl⟩ ?_
    have hf : fL G nP x = none := fst1_none (fun j hj => decide_eq_false (v1_ j (by omega)))
    rw [hf] at hq; exact hq
  · refine r_aload_n (x := some 2) (pc2 := 11) d_Pe_find_10 rfl rfl ?_
    refine q_getR (x := some 3) (pc2 := 14) d_Pe_find_11 rfl k_Pe_9 rfl (sh_2 hS) (rf_2_0 hR) ?_
    refine r_iload_n (pc2 := 15) d_Pe_find_14 rfl rfl ?_
    refine q_iaload (q := i) (x := G (6 + 2 * i)) (pc2 := 16) d_Pe_find_15 rfl (sh_3 hS) (nI_toInt (by omega)) (by omega) ((hD.2.1 i (by omega)).1) ?_
    refine r_i2l (pc2 := 17) d_Pe_find_16 rfl ?_
    refine r_lload_n (pc2 := 18) d_Pe_find_17 rfl rfl ?_
    refine r_lcmp (pc2 := 19) d_Pe_find_18 rfl ?_
    refine q_lif_ne (tgt := 24) (A := (G (6 + 2 * i)).toInt) (B := x.toInt) (pc2 := 22) d_Pe_find_19 rfl rfl (toInt64_toInt (rfl)) (rfl) (fun c2 => ?_) (fun c2 => ?_)
    · refine q_iinc (b := 1) (pc2 := 27) d_Pe_find_24 rfl rfl (by decide) (Nat.le_of_ble_eq_true rfl) ?_
      refine r_goto (tgt := 2) d_Pe_find_27 rfl ?_
      refine Run.sub (l2 := [(0, .ref 2), (1, .long x), (3, .int (nI (i + 1)))]) ⟨rfl, rfl, rfl, trivial⟩ ?_
      exact ih_ (nP - (i + 1)) (by omega) (i + 1) rfl (by omega) (fun j hj => by
        rcases Nat.lt_or_ge j i with q | q
        · exact v1_ j q
        · rw [show j = i by omega]; exact c2)
    · refine r_iload_n (pc2 := 23) d_Pe_find_22 rfl rfl ?_
      refine Run.ret (some (.int (nI i))) d_Pe_find_23 ⟨_, rfl⟩ ?_
      have hf : fL G nP x = some i := fst1_some (fun j hj => decide_eq_false (v1_ j hj)) (decide_eq_true c2) (by omega)
      rw [hf] at hq; exact hq
theorem c_Pe_find {d : Nat} {I : Nat → Nat → Int32} {R : Nat → Nat → Option Nat} {L : Nat → Nat → Int64} {sh : Nat → Nat × Nat} {N : Nat} (hS : ShOK sh) (hR : RfOK R) {tK tF tC tS : Nat → Int32} {nt : Nat} (hV : TV tK tF tC nt) (hV2 : TV2 tK tF tC tS nt) (hnt6 : nt ≤ 1000000) {G : Nat → Int32} {nP nF nS : Nat} (hW : WFA G nP nF nt) (hWT : WFT G nF nS) (hKW : WFK G nP nF) {rk : Nat → Nat} (hrk : RK G nF rk) (hD : DR tK tF tC tS I R sh nt 0 G nP nF nS) {x : Int64} : Me mi_Pe_find d 0 0 [.ref 2, .long x] (I, R, L, sh, N) (some (.int (vo (fL G nP x)))) (I, R, L, sh, N) := by
  refine Mt.of pn_Pe (Nat.le_of_ble_eq_true rfl) ?_
  show Run mi_Pe_find d 0 0 0 [(0, .ref 2), (1, .long x)] [] (I, R, L, sh, N) _
  refine r_iconst (v := nI 0) (pc2 := 1) d_Pe_find_0 rfl (by decide) ?_
  refine r_istore_n (pc2 := 2) d_Pe_find_1 rfl rfl (Nat.le_of_ble_eq_true rfl) ?_
  refine Run.sub (l2 := [(0, .ref 2), (1, .long x), (3, .int (nI 0))]) ⟨rfl, rfl, rfl, trivial⟩ ?_
  exact l_Pe_find hS hR hV hV2 hnt6 hW hWT hKW hrk hD ⟨rfl, rfl⟩ _ 0 rfl (Nat.zero_le _) (fun j hj => absurd hj (by omega))
