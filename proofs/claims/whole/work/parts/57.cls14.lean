/-! THE CLASS: forget, featureOf -/
/-- a row filled -/
def flR (I : Nat → Nat → Int32) (A i : Nat) (v : Int32) : Nat → Nat → Int32 := fun a j => if a = A ∧ j < i then v else I a j
theorem flR_0 {I : Nat → Nat → Int32} {A : Nat} {v : Int32} : flR I A 0 v = I := by
  funext a j; unfold flR; rw [if_neg (by omega)]
theorem flR_s {I J : Nat → Nat → Int32} {A i : Nat} {v : Int32} (h : J = u2 (flR I A i v) A i v) : J = flR I A (i + 1) v := by
  funext a j
  by_cases q : a = A
  · subst q
    by_cases r : j = i
    · subst r; rw [rd_eq h]; unfold flR; rw [if_pos ⟨rfl, by omega⟩]
    · rw [rd_nk h r]; unfold flR
      by_cases z : j < i
      · rw [if_pos ⟨rfl, z⟩, if_pos ⟨rfl, by omega⟩]
      · rw [if_neg (by omega), if_neg (by omega)]
  · rw [rd_ne h q]; unfold flR; rw [if_neg (fun z => q z.1), if_neg (fun z => q z.1)]
theorem flR_i {I J : Nat → Nat → Int32} {A n j : Nat} {v : Int32} (h : J = flR I A n v) (hj : j < n) : J A j = v := by rw [h]; unfold flR; rw [if_pos ⟨rfl, hj⟩]
theorem flR_o {I J : Nat → Nat → Int32} {A n a j : Nat} {v : Int32} (h : J = flR I A n v) (ha : a ≠ A) : J a j = I a j := by rw [h]; unfold flR; rw [if_neg (fun z => ha z.1)]
theorem fil_i {G : Nat → Int32} {a b q : Nat} {v : Int32} (h : a ≤ q ∧ q < b) : fil G a b v q = v := by unfold fil; rw [if_pos h]
theorem FR.forget {K F C S : Nat → Int32} {I J : Nat → Nat → Int32} {R : Nat → Nat → Option Nat} {sh : Nat → Nat × Nat} {nt d nP nF E : Nat} {G : Nat → Int32} (hd : d < 3) (hE : E < 12) (hP : nP ≤ 24) (hw : WFF G nF nt E) (h : FR K F C S I R sh nt d G nP E) (e : J = flR I (fe d E + 5) 24 (-1)) : FR K F C S J R sh nt d (fil G (174 + 84 * E + (36 + 0)) (174 + 84 * E + (36 + 24)) (nI 0)) nP E := by
  obtain ⟨tp, kl, sk, fb, nR, nN, nO, fr, to, -, -, -, -, ⟨-, b4, c4, -⟩, ⟨-, b5, c5, -⟩, ⟨-, b6, c6, -⟩, -⟩ := wfn hw
  obtain ⟨⟨x0, x1, x2, x3, x4, x5, x6, x7, x8⟩, y2, y3, y4, y5, y6⟩ := h
  have hfl := fe_lt hd hE
  have hr : nRof (fil G (174 + 84 * E + (36 + 0)) (174 + 84 * E + (36 + 24)) (nI 0)) E = nRof G E := by unfold nRof; rw [fil_o (by omega)]
  have hn : nNof (fil G (174 + 84 * E + (36 + 0)) (174 + 84 * E + (36 + 24)) (nI 0)) E = nNof G E := by unfold nNof; rw [fil_o (by omega)]
  have hr6 : nRof G E ≤ 6 := by unfold nRof; rw [b4, Int.toNat_natCast]; exact c4
  have hn3 : nNof G E ≤ 3 := by unfold nNof; rw [b5, Int.toNat_natCast]; exact c5
  have ho8 : nOof G E ≤ 8 := by unfold nOof; rw [b6, Int.toNat_natCast]; exact c6
  refine ⟨⟨by rw [flR_o e (by omega), fil_o (by omega)]; exact x0, by rw [flR_o e (by omega), fil_o (by omega)]; exact x1, by rw [flR_o e (by omega), fil_o (by omega)]; exact x2, by rw [flR_o e (by omega), fil_o (by omega)]; exact x3, by rw [flR_o e (by omega), fil_o (by omega)]; exact x4, by rw [flR_o e (by omega), fil_o (by omega)]; exact x5, by rw [flR_o e (by omega), fil_o (by omega)]; exact x6, by rw [flR_o e (by omega), fil_o (by omega)]; exact x7, by rw [flR_o e (by omega), fil_o (by omega)]; exact x8⟩, fun n hn2 => ?_, fun p hp => ?_, fun p hp => ?_, fun v hv => ?_, fun r hr2 => ?_⟩
  · rw [hn] at hn2
    rw [flR_o e (by omega), flR_o e (by omega), fil_o (by omega), fil_o (by omega)]; exact y2 n hn2
  · rw [flR_o e (by omega), y3 p hp]
    by_cases q : p < nP
    · rw [if_pos q, if_pos q, fil_o (by omega), ovV_c (fun w hw => fil_o (by omega)) ho8]
    · rw [if_neg q, if_neg q]
  · rw [flR_i e hp]
    by_cases q : p < nP
    · rw [if_pos q, fil_i (by omega)]; rfl
    · rw [if_neg q]
  · rw [flR_o e (by omega), fil_o (by omega)]; exact y5 v hv
  · rw [hr] at hr2
    exact (y6 r hr2).c (fun a j h1 _ => flR_o e (by omega)) (fun _ _ _ => rfl) (fun j => flR_o e (by unfold ru; omega)) (fun j => flR_o e (by unfold ru; omega)) rfl (fun k hk => fil_o (by omega))
theorem l_JA_fillI {d : Nat} {J : Nat → Nat → Int32} {R : Nat → Nat → Option Nat} {L : Nat → Nat → Int64} {sh : Nat → Nat × Nat} {N : Nat} (hS : ShOK sh) (hR : RfOK R) {A n : Nat} (hA : sh A = (12, n)) (hn : n ≤ 1000000) {v : Int32} {Q : Option Value → HS → Prop} (hq : ∀ K, K = flR J A n v → Q none (K, R, L, sh, N)) : ∀ (n_ : Nat) (i : Nat) (J1 : Nat → Nat → Int32), n - i = n_ → (J1 = flR J A i v) → (i ≤ n) → Run mi_JA_fillI d 0 0 5 [(0, .ref A), (1, .int v), (2, .int (nI i)), (3, .int (nI n))] [] (J1, R, L, sh, N) Q := by
  intro n_
  induction n_ using Nat.strongRecOn with | ind n_ ih_ => ?_
  intro i J1 hn_ v0_ v1_
  refine r_iload_n (pc2 := 6) d_JA_fillI_5 rfl rfl ?_
  refine r_iload_n (pc2 := 7) d_JA_fillI_6 rfl rfl ?_
  refine q_icmp_ge (tgt := 20) (A := ((i : Nat) : Int)) (B := ((n : Nat) : Int)) (pc2 := 10) d_JA_fillI_7 rfl rfl (nI_toInt (by omega)) (nI_toInt (by omega)) (fun c1 => ?_) (fun c1 => ?_)
  · refine Run.ret none d_JA_fillI_20 rfl ?_
    exact hq _ (by rw [show n = i by omega]; exact v0_)
  · refine r_aload_n (x := some A) (pc2 := 11) d_JA_fillI_10 rfl rfl ?_
    refine r_iload_n (pc2 := 12) d_JA_fillI_11 rfl rfl ?_
    refine r_iload_n (pc2 := 13) d_JA_fillI_12 rfl rfl ?_
    refine q_iastore (q := i) (pc2 := 14) d_JA_fillI_13 rfl hA (nI_toInt (by omega)) (by omega) (fun I2 hI2 => ?_)
    refine q_iinc (b := 1) (pc2 := 17) d_JA_fillI_14 rfl rfl (by decide) (Nat.le_of_ble_eq_true rfl) ?_
    refine r_goto (tgt := 5) d_JA_fillI_17 rfl ?_
    refine Run.sub (l2 := [(0, .ref A), (1, .int v), (2, .int (nI (i + 1))), (3, .int (nI n))]) ⟨rfl, rfl, rfl, rfl, trivial⟩ ?_
    exact ih_ (n - (i + 1)) (by omega) (i + 1) I2 rfl (flR_s (by rw [← v0_]; exact hI2)) (by omega)
theorem c_JA_fillI {d : Nat} {J : Nat → Nat → Int32} {R : Nat → Nat → Option Nat} {L : Nat → Nat → Int64} {sh : Nat → Nat × Nat} {N : Nat} (hS : ShOK sh) (hR : RfOK R) {A n : Nat} (hA : sh A = (12, n)) (hn : n ≤ 1000000) {v : Int32} : Mt mi_JA_fillI d 0 0 [.ref A, .int v] (J, R, L, sh, N) (fun r h2 => r = none ∧ ∃ K, h2 = (K, R, L, sh, N) ∧ K = flR J A n v) := by
  refine Mt.ofF (by decide +kernel) (Nat.le_of_ble_eq_true rfl) ?_
  show Run mi_JA_fillI d 0 0 0 [(0, .ref A), (1, .int v)] [] (J, R, L, sh, N) _
  refine r_iconst (v := nI 0) (pc2 := 1) d_JA_fillI_0 rfl (by decide) ?_
  refine r_istore_n (pc2 := 2) d_JA_fillI_1 rfl rfl (Nat.le_of_ble_eq_true rfl) ?_
  refine r_aload_n (x := some A) (pc2 := 3) d_JA_fillI_2 rfl rfl ?_
  refine r_alen (pc2 := 4) d_JA_fillI_3 rfl hA (by decide) (by decide) ?_
  refine r_istore_n (pc2 := 5) d_JA_fillI_4 rfl rfl (Nat.le_of_ble_eq_true rfl) ?_
  refine Run.sub (l2 := [(0, .ref A), (1, .int v), (2, .int (nI 0)), (3, .int (nI n))]) ⟨rfl, rfl, rfl, rfl, trivial⟩ ?_
  exact l_JA_fillI hS hR hA hn (fun K hK => ⟨rfl, K, rfl, hK⟩) _ 0 _ rfl flR_0.symm (Nat.zero_le _)
theorem c_X_forget {d : Nat} {I : Nat → Nat → Int32} {R : Nat → Nat → Option Nat} {L : Nat → Nat → Int64} {sh : Nat → Nat × Nat} {N : Nat} (hS : ShOK sh) (hR : RfOK R) {tK tF tC tS : Nat → Int32} {nt : Nat} (hV : TV tK tF tC nt) (hV2 : TV2 tK tF tC tS nt) (hnt6 : nt ≤ 1000000) {G : Nat → Int32} {nP nF nS : Nat} (hW : WFA G nP nF nt) (hWT : WFT G nF nS) (hKW : WFK G nP nF) {rk : Nat → Nat} (hrk : RK G nF rk) (hD : DR tK tF tC tS I R sh nt 0 G nP nF nS) {f : Int32} (hd : 90 ≤ d) : Mt mi_X_forget d 0 0 [.ref 0, .int f] (I, R, L, sh, N) (XD I R L sh N (o_forget G nP nF f) (PD tK tF tC tS I R sh nt (g_forget G nF f) nP nF nS)) := by
  obtain ⟨hPc, hP24, hFc, hF12, hWF, hWP⟩ := id hW
  have hS24 := hWT.2.1
  refine Mt.of pn_X (Nat.le_of_ble_eq_true rfl) ?_
  show Run mi_X_forget d 0 0 0 [(0, .ref 0), (1, .int f)] [] (I, R, L, sh, N) _
  refine r_aload_n (x := some 0) (pc2 := 1) d_X_forget_0 rfl rfl ?_
  refine r_iload_n (pc2 := 2) d_X_forget_1 rfl rfl ?_
  refine q_callv (M2 := mi_X_isFeature) (pc2 := 5) d_X_forget_2 rfl k_X_220 cm_X_isFeature cv_X_isFeature (sh_0 hS) (by decide) rfl rfl rfl (Nat.le_of_ble_eq_true rfl) (c_X_isFeature (f := f) hS hR hV hV2 hnt6 hW hWT hKW hrk hD) (d2 := d - 1) (by omega) (Nat.le_of_eq (Nat.zero_add _)) (Nat.le_of_eq (Nat.zero_add _)) ?_
  refine q_bif_ne (tgt := 15) (pc2 := 8) d_X_forget_5 rfl rfl (fun c1 => ?_) (fun c1 => ?_)
  · obtain ⟨fN, hfN, rfl, efN⟩ := nat_of c1
    obtain ⟨tpfN, klfN, skfN, fbfN, nRfN, nNfN, nOfN, frfN, tofN, ⟨a0fN, b0fN, cc0fN, dd0fN⟩, ⟨a1fN, b1fN, cc1fN, dd1fN⟩, ⟨a2fN, b2fN, cc2fN, dd2fN⟩, ⟨a3fN, b3fN, cc3fN, dd3fN⟩, ⟨a4fN, b4fN, cc4fN, dd4fN⟩, ⟨a5fN, b5fN, cc5fN, dd5fN⟩, ⟨a6fN, b6fN, cc6fN, dd6fN⟩, ⟨a8fN, b8fN, cc8fN, dd8fN⟩, ⟨a9fN, b9fN, cc9fN, dd9fN⟩⟩ := wfn (hWF fN (by omega))
    obtain ⟨-, -, -, -, -, -, -, w7fN, -, -, wNfN, wRfN, wKfN, wOfN⟩ := hWF fN (by omega)
    obtain ⟨⟨x0fN, x1fN, x2fN, x3fN, x4fN, x5fN, x6fN, x7fN, x8fN⟩, xnfN, xofN, xkfN, xcfN, xrfN⟩ := hD.2.2.2.1 fN (by omega)
    have hflfN := fe_lt (e := 0) (by decide) (show fN < 12 by omega)
    unfold dk at hflfN
    refine r_aload_n (x := some 0) (pc2 := 16) d_X_forget_15 rfl rfl ?_
    refine q_getR (x := some 1) (pc2 := 19) d_X_forget_16 rfl k_X_12 rfl (sh_0 hS) (rf_0_0 hR) ?_
    refine q_getR (x := some 5) (pc2 := 22) d_X_forget_19 rfl k_X_211 rfl (sh_1 hS) (rf_1_1 hR) ?_
    refine r_iload_n (pc2 := 23) d_X_forget_22 rfl rfl ?_
    refine q_aaload (q := fN) (x := some (fe 0 fN)) (pc2 := 24) d_X_forget_23 rfl (sh_5 hS) (by decide) (by decide) (nI_toInt (by omega)) (by omega) (rf_fe hR (show 0 < 3 by decide) (show fN < 12 by omega)) ?_
    refine q_getR (x := some (fe 0 fN + 5)) (pc2 := 27) d_X_forget_24 rfl k_X_365 rfl (sh_fe0 hS (show 0 < 3 by decide) (show fN < 12 by omega)) (rf_fe_10 hR (show 0 < 3 by decide) (show fN < 12 by omega)) ?_
    refine q_calls (M2 := mi_X_countSome) (pc2 := 30) d_X_forget_27 rfl k_X_289 cm_X_countSome cs_X_countSome rfl rfl (Nat.le_of_ble_eq_true rfl) (c_X_countSome (J := I) hS hR (A := fe 0 fN + 5) (sh_fe5 hS (show 0 < 3 by decide) (show fN < 12 by omega))) (d2 := d - 1) (by omega) (Nat.le_of_eq (Nat.zero_add _)) (Nat.le_of_eq (Nat.zero_add _)) ?_
    refine q_top (y := nI (cnt (keptP G fN) nP)) (FR.nkp hP24 (hD.2.2.2.1 fN (by omega))) ?_
    refine r_istore_n (pc2 := 31) d_X_forget_30 rfl rfl (Nat.le_of_ble_eq_true rfl) ?_
    refine r_aload_n (x := some 0) (pc2 := 32) d_X_forget_31 rfl rfl ?_
    refine q_getR (x := some 1) (pc2 := 35) d_X_forget_32 rfl k_X_12 rfl (sh_0 hS) (rf_0_0 hR) ?_
    refine q_getR (x := some 5) (pc2 := 38) d_X_forget_35 rfl k_X_211 rfl (sh_1 hS) (rf_1_1 hR) ?_
    refine r_iload_n (pc2 := 39) d_X_forget_38 rfl rfl ?_
    refine q_aaload (q := fN) (x := some (fe 0 fN)) (pc2 := 40) d_X_forget_39 rfl (sh_5 hS) (by decide) (by decide) (nI_toInt (by omega)) (by omega) (rf_fe hR (show 0 < 3 by decide) (show fN < 12 by omega)) ?_
    refine q_getR (x := some (fe 0 fN + 5)) (pc2 := 43) d_X_forget_40 rfl k_X_365 rfl (sh_fe0 hS (show 0 < 3 by decide) (show fN < 12 by omega)) (rf_fe_10 hR (show 0 < 3 by decide) (show fN < 12 by omega)) ?_
    refine r_iconst (v := (-1 : Int32)) (pc2 := 44) d_X_forget_43 rfl (by decide) ?_
    have hfln := fe_lt (e := 0) (by decide) (show fN < 12 by omega)
    unfold dk at hfln
    refine r_calls (M2 := mi_JA_fillI) (pc2 := 47) d_X_forget_44 rfl k_X_368 cm_JA_fillI cs_JA_fillI rfl rfl (Nat.le_of_ble_eq_true rfl) (c_JA_fillI (J := I) hS hR (A := fe 0 fN + 5) (sh_fe5 hS (show 0 < 3 by decide) (show fN < 12 by omega)) (by omega) (v := (-1 : Int32))) (d2 := d - 1) (by omega) (Nat.le_of_eq (Nat.zero_add _)) (Nat.le_of_eq (Nat.zero_add _)) (fun r2 h2 hq2 => ?_)
    obtain ⟨rfl, K2, rfl, hK2⟩ := hq2
    change Run _ _ _ _ _ _ [] _ _
    refine r_iload_n (pc2 := 48) d_X_forget_47 rfl rfl ?_
    refine Run.ret (some (.int (nI (cnt (keptP G fN) nP)))) d_X_forget_48 ⟨_, rfl⟩ ?_
    exact XD.val (by (try simp only [efN, b0fN, b1fN, b2fN, b3fN, b4fN, b5fN, b6fN, b8fN, b9fN, Int.toNat_natCast] at c1); (unfold o_forget); (try dsimp only); (try simp only [efN, b0fN, b1fN, b2fN, b3fN, b4fN, b5fN, b6fN, b8fN, b9fN, Int.toNat_natCast]); (repeat (first | rw [if_pos (by omega)] | rw [if_neg (by omega)])); (try rfl); (all_goals first | rfl | (simp only [a0fN, a1fN, a2fN, a3fN, a4fN, a5fN, a6fN, a8fN, a9fN]; done) | (congr 2 <;> omega) | ((repeat' split) <;> first | rfl | (simp only [a0fN, a1fN, a2fN, a3fN, a4fN, a5fN, a6fN, a8fN, a9fN]; done) | (exfalso; omega) | (congr 2 <;> omega) | skip))) ⟨(fun a j q1 q2 => flR_o hK2 (by omega)), FrRD.rf, by (try simp only [efN, b0fN, b1fN, b2fN, b3fN, b4fN, b5fN, b6fN, b8fN, b9fN, Int.toNat_natCast] at c1); (unfold g_forget); (try dsimp only); (try simp only [efN, b0fN, b1fN, b2fN, b3fN, b4fN, b5fN, b6fN, b8fN, b9fN, Int.toNat_natCast]); (repeat (first | rw [if_pos (by omega)] | rw [if_neg (by omega)])); exact DR.f1 hW hWT (E := fN) (by omega) hD (fun a j q => flR_o hK2 (by omega)) (fun j hj => fil_o (by omega)) (FR.forget (by decide) (by omega) hP24 (hWF fN (by omega)) (hD.2.2.2.1 fN (by omega)) hK2)⟩
  · refine r_aload_n (x := some 0) (pc2 := 9) d_X_forget_8 rfl rfl ?_
    refine r_bipush (v := (-32 : Int32)) (pc2 := 11) d_X_forget_9 rfl (by decide) ?_
    refine q_callv (M2 := mi_X_refuse) (pc2 := 14) d_X_forget_11 rfl k_X_75 cm_X_refuse cv_X_refuse (sh_0 hS) (by decide) rfl rfl rfl (Nat.le_of_ble_eq_true rfl) (c_X_refuse_0 (J := I) hS hR) (d2 := d - 1) (by omega) (Nat.le_of_eq (Nat.zero_add _)) (Nat.le_of_eq (Nat.zero_add _)) ?_
    obtain ⟨I3, hI3⟩ : ∃ x, x = u2 I 744 0 (I 744 0 + nI 1) := ⟨_, rfl⟩
    rw [← hI3]
    refine Run.ret (some (.int ((-32 : Int32)))) d_X_forget_14 ⟨_, rfl⟩ ?_
    exact XD.bad hS 0 (by (unfold o_forget); (try dsimp only); (try simp only [Int.toNat_natCast]); (repeat (first | rw [if_pos (by omega)] | rw [if_neg (by omega)])); (try rfl); (all_goals first | rfl | (congr 2 <;> omega) | ((repeat' split) <;> first | rfl | (exfalso; omega) | (congr 2 <;> omega) | skip))) (by decide) FrXR.rf FrX.rf hI3
theorem c_X_featureOf {d : Nat} {I : Nat → Nat → Int32} {R : Nat → Nat → Option Nat} {L : Nat → Nat → Int64} {sh : Nat → Nat × Nat} {N : Nat} (hS : ShOK sh) (hR : RfOK R) {tK tF tC tS : Nat → Int32} {nt : Nat} (hV : TV tK tF tC nt) (hV2 : TV2 tK tF tC tS nt) (hnt6 : nt ≤ 1000000) {G : Nat → Int32} {nP nF nS : Nat} (hW : WFA G nP nF nt) (hWT : WFT G nF nS) (hKW : WFK G nP nF) {rk : Nat → Nat} (hrk : RK G nF rk) (hD : DR tK tF tC tS I R sh nt 0 G nP nF nS) {f : Int32} {k : Int32} (hd : 80 ≤ d) : Mt mi_X_featureOf d 0 0 [.ref 0, .int f, .int k] (I, R, L, sh, N) (XP I R L sh N (o_featureOf G nP nF f k) (fun K _ => FrX sh I K)) := by
  obtain ⟨hPc, hP24, hFc, hF12, hWF, hWP⟩ := id hW
  refine Mt.of pn_X (Nat.le_of_ble_eq_true rfl) ?_
  show Run mi_X_featureOf d 0 0 0 [(0, .ref 0), (1, .int f), (2, .int k)] [] (I, R, L, sh, N) _
  refine r_aload_n (x := some 0) (pc2 := 1) d_X_featureOf_0 rfl rfl ?_
  refine r_iload_n (pc2 := 2) d_X_featureOf_1 rfl rfl ?_
  refine q_callv (M2 := mi_X_isFeature) (pc2 := 5) d_X_featureOf_2 rfl k_X_220 cm_X_isFeature cv_X_isFeature (sh_0 hS) (by decide) rfl rfl rfl (Nat.le_of_ble_eq_true rfl) (c_X_isFeature (f := f) hS hR hV hV2 hnt6 hW hWT hKW hrk hD) (d2 := d - 1) (by omega) (Nat.le_of_eq (Nat.zero_add _)) (Nat.le_of_eq (Nat.zero_add _)) ?_
  refine q_bif_ne (tgt := 15) (pc2 := 8) d_X_featureOf_5 rfl rfl (fun c1 => ?_) (fun c1 => ?_)
  · obtain ⟨fN, hfN, rfl, efN⟩ := nat_of c1
    obtain ⟨tpfN, klfN, skfN, fbfN, nRfN, nNfN, nOfN, frfN, tofN, ⟨a0fN, b0fN, cc0fN, dd0fN⟩, ⟨a1fN, b1fN, cc1fN, dd1fN⟩, ⟨a2fN, b2fN, cc2fN, dd2fN⟩, ⟨a3fN, b3fN, cc3fN, dd3fN⟩, ⟨a4fN, b4fN, cc4fN, dd4fN⟩, ⟨a5fN, b5fN, cc5fN, dd5fN⟩, ⟨a6fN, b6fN, cc6fN, dd6fN⟩, ⟨a8fN, b8fN, cc8fN, dd8fN⟩, ⟨a9fN, b9fN, cc9fN, dd9fN⟩⟩ := wfn (hWF fN (by omega))
    obtain ⟨-, -, -, -, -, -, -, w7fN, -, -, wNfN, wRfN, wKfN, wOfN⟩ := hWF fN (by omega)
    obtain ⟨⟨x0fN, x1fN, x2fN, x3fN, x4fN, x5fN, x6fN, x7fN, x8fN⟩, xnfN, xofN, xkfN, xcfN, xrfN⟩ := hD.2.2.2.1 fN (by omega)
    have hflfN := fe_lt (e := 0) (by decide) (show fN < 12 by omega)
    unfold dk at hflfN
    refine r_aload_n (x := some 0) (pc2 := 16) d_X_featureOf_15 rfl rfl ?_
    refine q_getR (x := some 1) (pc2 := 19) d_X_featureOf_16 rfl k_X_12 rfl (sh_0 hS) (rf_0_0 hR) ?_
    refine q_getR (x := some 5) (pc2 := 22) d_X_featureOf_19 rfl k_X_211 rfl (sh_1 hS) (rf_1_1 hR) ?_
    refine r_iload_n (pc2 := 23) d_X_featureOf_22 rfl rfl ?_
    refine q_aaload (q := fN) (x := some (fe 0 fN)) (pc2 := 24) d_X_featureOf_23 rfl (sh_5 hS) (by decide) (by decide) (nI_toInt (by omega)) (by omega) (rf_fe hR (show 0 < 3 by decide) (show fN < 12 by omega)) ?_
    refine r_astore_n (x := some (fe 0 fN)) (pc2 := 25) d_X_featureOf_24 rfl rfl (Nat.le_of_ble_eq_true rfl) ?_
    refine r_iload_n (pc2 := 26) d_X_featureOf_25 rfl rfl ?_
    refine q_switch (tgt := 155) (A := k.toInt) d_X_featureOf_26 rfl (rfl) (fun off t2 c2a c2b c2o c2t => ?_) (by decide) (by decide) (fun c2 => ?_)
    · have c2c : k.toInt = 0 ∨ k.toInt = 1 ∨ k.toInt = 2 ∨ k.toInt = 3 ∨ k.toInt = 4 ∨ k.toInt = 5 ∨ k.toInt = 6 ∨ k.toInt = 7 ∨ k.toInt = 8 ∨ k.toInt = 9 := by omega
      rcases c2c with c2e | c2e | c2e | c2e | c2e | c2e | c2e | c2e | c2e | c2e
      · obtain rfl : t2 = 80 := by
          have hh : (some (54 : Int)) = some off := by rw [c2e] at c2o; exact c2o
          cases hh; omega
        obtain rfl : k = nI 0 := eq_nI (by omega)
        have ek0 : (nI 0).toInt = ((0 : Nat) : Int) := rfl
        refine r_aload_n (x := some (fe 0 fN)) (pc2 := 81) d_X_featureOf_80 rfl rfl ?_
        refine q_getI (x := nI tpfN) (pc2 := 84) d_X_featureOf_81 rfl k_X_215 (by decide) (sh_fe0 hS (show 0 < 3 by decide) (show fN < 12 by omega)) (x0fN.trans a0fN) ?_
        refine Run.ret (some (.int (nI tpfN))) d_X_featureOf_84 ⟨_, rfl⟩ ?_
        first | (exfalso; omega) | exact XP.val (by (try simp only [efN, b0fN, b1fN, b2fN, b3fN, b4fN, b5fN, b6fN, b8fN, b9fN, ek0, Nat.reduceAdd, Int.toNat_natCast] at c1); (unfold o_featureOf); (try dsimp only); (try simp only [efN, b0fN, b1fN, b2fN, b3fN, b4fN, b5fN, b6fN, b8fN, b9fN, ek0, Nat.reduceAdd, Int.toNat_natCast]); (repeat (first | rw [if_pos (by omega)] | rw [if_neg (by omega)])); (try rfl); (all_goals first | rfl | (simp only [a0fN, a1fN, a2fN, a3fN, a4fN, a5fN, a6fN, a8fN, a9fN]; done) | (congr 2 <;> omega) | ((repeat' split) <;> first | rfl | (simp only [a0fN, a1fN, a2fN, a3fN, a4fN, a5fN, a6fN, a8fN, a9fN]; done) | (exfalso; omega) | (congr 2 <;> omega) | skip))) FrXR.rf FrX.rf
      · obtain rfl : t2 = 85 := by
          have hh : (some (59 : Int)) = some off := by rw [c2e] at c2o; exact c2o
          cases hh; omega
        obtain rfl : k = nI 1 := eq_nI (by omega)
        have ek0 : (nI 1).toInt = ((1 : Nat) : Int) := rfl
        refine r_aload_n (x := some (fe 0 fN)) (pc2 := 86) d_X_featureOf_85 rfl rfl ?_
        refine q_getI (x := nI klfN) (pc2 := 89) d_X_featureOf_86 rfl k_X_223 (by decide) (sh_fe0 hS (show 0 < 3 by decide) (show fN < 12 by omega)) (x1fN.trans a1fN) ?_
        refine Run.ret (some (.int (nI klfN))) d_X_featureOf_89 ⟨_, rfl⟩ ?_
        first | (exfalso; omega) | exact XP.val (by (try simp only [efN, b0fN, b1fN, b2fN, b3fN, b4fN, b5fN, b6fN, b8fN, b9fN, ek0, Nat.reduceAdd, Int.toNat_natCast] at c1); (unfold o_featureOf); (try dsimp only); (try simp only [efN, b0fN, b1fN, b2fN, b3fN, b4fN, b5fN, b6fN, b8fN, b9fN, ek0, Nat.reduceAdd, Int.toNat_natCast]); (repeat (first | rw [if_pos (by omega)] | rw [if_neg (by omega)])); (try rfl); (all_goals first | rfl | (simp only [a0fN, a1fN, a2fN, a3fN, a4fN, a5fN, a6fN, a8fN, a9fN]; done) | (congr 2 <;> omega) | ((repeat' split) <;> first | rfl | (simp only [a0fN, a1fN, a2fN, a3fN, a4fN, a5fN, a6fN, a8fN, a9fN]; done) | (exfalso; omega) | (congr 2 <;> omega) | skip))) FrXR.rf FrX.rf
      · obtain rfl : t2 = 90 := by
          have hh : (some (64 : Int)) = some off := by rw [c2e] at c2o; exact c2o
          cases hh; omega
        obtain rfl : k = nI 2 := eq_nI (by omega)
        have ek0 : (nI 2).toInt = ((2 : Nat) : Int) := rfl
        refine r_aload_n (x := some (fe 0 fN)) (pc2 := 91) d_X_featureOf_90 rfl rfl ?_
        refine q_getI (x := nI skfN) (pc2 := 94) d_X_featureOf_91 rfl k_X_226 (by decide) (sh_fe0 hS (show 0 < 3 by decide) (show fN < 12 by omega)) (x2fN.trans a2fN) ?_
        refine Run.ret (some (.int (nI skfN))) d_X_featureOf_94 ⟨_, rfl⟩ ?_
        first | (exfalso; omega) | exact XP.val (by (try simp only [efN, b0fN, b1fN, b2fN, b3fN, b4fN, b5fN, b6fN, b8fN, b9fN, ek0, Nat.reduceAdd, Int.toNat_natCast] at c1); (unfold o_featureOf); (try dsimp only); (try simp only [efN, b0fN, b1fN, b2fN, b3fN, b4fN, b5fN, b6fN, b8fN, b9fN, ek0, Nat.reduceAdd, Int.toNat_natCast]); (repeat (first | rw [if_pos (by omega)] | rw [if_neg (by omega)])); (try rfl); (all_goals first | rfl | (simp only [a0fN, a1fN, a2fN, a3fN, a4fN, a5fN, a6fN, a8fN, a9fN]; done) | (congr 2 <;> omega) | ((repeat' split) <;> first | rfl | (simp only [a0fN, a1fN, a2fN, a3fN, a4fN, a5fN, a6fN, a8fN, a9fN]; done) | (exfalso; omega) | (congr 2 <;> omega) | skip))) FrXR.rf FrX.rf
      · obtain rfl : t2 = 95 := by
          have hh : (some (69 : Int)) = some off := by rw [c2e] at c2o; exact c2o
          cases hh; omega
        obtain rfl : k = nI 3 := eq_nI (by omega)
        have ek0 : (nI 3).toInt = ((3 : Nat) : Int) := rfl
        refine r_aload_n (x := some (fe 0 fN)) (pc2 := 96) d_X_featureOf_95 rfl rfl ?_
        refine q_getI (x := nI fbfN) (pc2 := 99) d_X_featureOf_96 rfl k_X_229 (by decide) (sh_fe0 hS (show 0 < 3 by decide) (show fN < 12 by omega)) (x3fN.trans a3fN) ?_
        refine Run.ret (some (.int (nI fbfN))) d_X_featureOf_99 ⟨_, rfl⟩ ?_
        first | (exfalso; omega) | exact XP.val (by (try simp only [efN, b0fN, b1fN, b2fN, b3fN, b4fN, b5fN, b6fN, b8fN, b9fN, ek0, Nat.reduceAdd, Int.toNat_natCast] at c1); (unfold o_featureOf); (try dsimp only); (try simp only [efN, b0fN, b1fN, b2fN, b3fN, b4fN, b5fN, b6fN, b8fN, b9fN, ek0, Nat.reduceAdd, Int.toNat_natCast]); (repeat (first | rw [if_pos (by omega)] | rw [if_neg (by omega)])); (try rfl); (all_goals first | rfl | (simp only [a0fN, a1fN, a2fN, a3fN, a4fN, a5fN, a6fN, a8fN, a9fN]; done) | (congr 2 <;> omega) | ((repeat' split) <;> first | rfl | (simp only [a0fN, a1fN, a2fN, a3fN, a4fN, a5fN, a6fN, a8fN, a9fN]; done) | (exfalso; omega) | (congr 2 <;> omega) | skip))) FrXR.rf FrX.rf
      · obtain rfl : t2 = 100 := by
          have hh : (some (74 : Int)) = some off := by rw [c2e] at c2o; exact c2o
          cases hh; omega
        obtain rfl : k = nI 4 := eq_nI (by omega)
        have ek0 : (nI 4).toInt = ((4 : Nat) : Int) := rfl
        refine r_aload_n (x := some (fe 0 fN)) (pc2 := 101) d_X_featureOf_100 rfl rfl ?_
        refine q_getI (x := nI nRfN) (pc2 := 104) d_X_featureOf_101 rfl k_X_236 (by decide) (sh_fe0 hS (show 0 < 3 by decide) (show fN < 12 by omega)) (x4fN.trans a4fN) ?_
        refine Run.ret (some (.int (nI nRfN))) d_X_featureOf_104 ⟨_, rfl⟩ ?_
        first | (exfalso; omega) | exact XP.val (by (try simp only [efN, b0fN, b1fN, b2fN, b3fN, b4fN, b5fN, b6fN, b8fN, b9fN, ek0, Nat.reduceAdd, Int.toNat_natCast] at c1); (unfold o_featureOf); (try dsimp only); (try simp only [efN, b0fN, b1fN, b2fN, b3fN, b4fN, b5fN, b6fN, b8fN, b9fN, ek0, Nat.reduceAdd, Int.toNat_natCast]); (repeat (first | rw [if_pos (by omega)] | rw [if_neg (by omega)])); (try rfl); (all_goals first | rfl | (simp only [a0fN, a1fN, a2fN, a3fN, a4fN, a5fN, a6fN, a8fN, a9fN]; done) | (congr 2 <;> omega) | ((repeat' split) <;> first | rfl | (simp only [a0fN, a1fN, a2fN, a3fN, a4fN, a5fN, a6fN, a8fN, a9fN]; done) | (exfalso; omega) | (congr 2 <;> omega) | skip))) FrXR.rf FrX.rf
      · obtain rfl : t2 = 105 := by
          have hh : (some (79 : Int)) = some off := by rw [c2e] at c2o; exact c2o
          cases hh; omega
        obtain rfl : k = nI 5 := eq_nI (by omega)
        have ek0 : (nI 5).toInt = ((5 : Nat) : Int) := rfl
        refine r_aload_n (x := some (fe 0 fN)) (pc2 := 106) d_X_featureOf_105 rfl rfl ?_
        refine q_getI (x := nI nNfN) (pc2 := 109) d_X_featureOf_106 rfl k_X_280 (by decide) (sh_fe0 hS (show 0 < 3 by decide) (show fN < 12 by omega)) (x5fN.trans a5fN) ?_
        refine Run.ret (some (.int (nI nNfN))) d_X_featureOf_109 ⟨_, rfl⟩ ?_
        first | (exfalso; omega) | exact XP.val (by (try simp only [efN, b0fN, b1fN, b2fN, b3fN, b4fN, b5fN, b6fN, b8fN, b9fN, ek0, Nat.reduceAdd, Int.toNat_natCast] at c1); (unfold o_featureOf); (try dsimp only); (try simp only [efN, b0fN, b1fN, b2fN, b3fN, b4fN, b5fN, b6fN, b8fN, b9fN, ek0, Nat.reduceAdd, Int.toNat_natCast]); (repeat (first | rw [if_pos (by omega)] | rw [if_neg (by omega)])); (try rfl); (all_goals first | rfl | (simp only [a0fN, a1fN, a2fN, a3fN, a4fN, a5fN, a6fN, a8fN, a9fN]; done) | (congr 2 <;> omega) | ((repeat' split) <;> first | rfl | (simp only [a0fN, a1fN, a2fN, a3fN, a4fN, a5fN, a6fN, a8fN, a9fN]; done) | (exfalso; omega) | (congr 2 <;> omega) | skip))) FrXR.rf FrX.rf
      · obtain rfl : t2 = 110 := by
          have hh : (some (84 : Int)) = some off := by rw [c2e] at c2o; exact c2o
          cases hh; omega
        obtain rfl : k = nI 6 := eq_nI (by omega)
        have ek0 : (nI 6).toInt = ((6 : Nat) : Int) := rfl
        refine r_aload_n (x := some (fe 0 fN)) (pc2 := 111) d_X_featureOf_110 rfl rfl ?_
        refine q_getR (x := some (fe 0 fN + 4)) (pc2 := 114) d_X_featureOf_111 rfl k_X_286 rfl (sh_fe0 hS (show 0 < 3 by decide) (show fN < 12 by omega)) (rf_fe_9 hR (show 0 < 3 by decide) (show fN < 12 by omega)) ?_
        refine q_calls (M2 := mi_X_countSome) (pc2 := 117) d_X_featureOf_114 rfl k_X_289 cm_X_countSome cs_X_countSome rfl rfl (Nat.le_of_ble_eq_true rfl) (c_X_countSome (J := I) hS hR (A := fe 0 fN + 4) (sh_fe4 hS (show 0 < 3 by decide) (show fN < 12 by omega))) (d2 := d - 1) (by omega) (Nat.le_of_eq (Nat.zero_add _)) (Nat.le_of_eq (Nat.zero_add _)) ?_
        refine q_top (y := G (174 + 84 * fN + 6)) (FR.nov hKW (by omega) hP24 (hWF fN (by omega)) (hD.2.2.2.1 fN (by omega))) ?_
        refine Run.ret (some (.int (G (174 + 84 * fN + 6)))) d_X_featureOf_117 ⟨_, rfl⟩ ?_
        first | (exfalso; omega) | exact XP.val (by (try simp only [efN, b0fN, b1fN, b2fN, b3fN, b4fN, b5fN, b6fN, b8fN, b9fN, ek0, Nat.reduceAdd, Int.toNat_natCast] at c1); (unfold o_featureOf); (try dsimp only); (try simp only [efN, b0fN, b1fN, b2fN, b3fN, b4fN, b5fN, b6fN, b8fN, b9fN, ek0, Nat.reduceAdd, Int.toNat_natCast]); (repeat (first | rw [if_pos (by omega)] | rw [if_neg (by omega)])); (try rfl); (all_goals first | rfl | (simp only [a0fN, a1fN, a2fN, a3fN, a4fN, a5fN, a6fN, a8fN, a9fN]; done) | (congr 2 <;> omega) | ((repeat' split) <;> first | rfl | (simp only [a0fN, a1fN, a2fN, a3fN, a4fN, a5fN, a6fN, a8fN, a9fN]; done) | (exfalso; omega) | (congr 2 <;> omega) | skip))) FrXR.rf FrX.rf
      · obtain rfl : t2 = 118 := by
          have hh : (some (92 : Int)) = some off := by rw [c2e] at c2o; exact c2o
          cases hh; omega
        obtain rfl : k = nI 7 := eq_nI (by omega)
        have ek0 : (nI 7).toInt = ((7 : Nat) : Int) := rfl
        refine r_aload_n (x := some (fe 0 fN)) (pc2 := 119) d_X_featureOf_118 rfl rfl ?_
        refine q_getI (x := G (174 + 84 * fN + 7)) (pc2 := 122) d_X_featureOf_119 rfl k_X_381 (by decide) (sh_fe0 hS (show 0 < 3 by decide) (show fN < 12 by omega)) x6fN ?_
        refine Run.ret (some (.int (G (174 + 84 * fN + 7)))) d_X_featureOf_122 ⟨_, rfl⟩ ?_
        first | (exfalso; omega) | exact XP.val (by (try simp only [efN, b0fN, b1fN, b2fN, b3fN, b4fN, b5fN, b6fN, b8fN, b9fN, ek0, Nat.reduceAdd, Int.toNat_natCast] at c1); (unfold o_featureOf); (try dsimp only); (try simp only [efN, b0fN, b1fN, b2fN, b3fN, b4fN, b5fN, b6fN, b8fN, b9fN, ek0, Nat.reduceAdd, Int.toNat_natCast]); (repeat (first | rw [if_pos (by omega)] | rw [if_neg (by omega)])); (try rfl); (all_goals first | rfl | (simp only [a0fN, a1fN, a2fN, a3fN, a4fN, a5fN, a6fN, a8fN, a9fN]; done) | (congr 2 <;> omega) | ((repeat' split) <;> first | rfl | (simp only [a0fN, a1fN, a2fN, a3fN, a4fN, a5fN, a6fN, a8fN, a9fN]; done) | (exfalso; omega) | (congr 2 <;> omega) | skip))) FrXR.rf FrX.rf
      · obtain rfl : t2 = 123 := by
          have hh : (some (97 : Int)) = some off := by rw [c2e] at c2o; exact c2o
          cases hh; omega
        obtain rfl : k = nI 8 := eq_nI (by omega)
        have ek0 : (nI 8).toInt = ((8 : Nat) : Int) := rfl
        refine r_aload_n (x := some (fe 0 fN)) (pc2 := 124) d_X_featureOf_123 rfl rfl ?_
        refine q_getI (x := G (174 + 84 * fN + 7)) (pc2 := 127) d_X_featureOf_124 rfl k_X_381 (by decide) (sh_fe0 hS (show 0 < 3 by decide) (show fN < 12 by omega)) x6fN ?_
        refine r_iconst (v := (-1 : Int32)) (pc2 := 128) d_X_featureOf_127 rfl (by decide) ?_
        refine q_icmp_ne (tgt := 135) (A := (G (174 + 84 * fN + 7)).toInt) (B := (-1 : Int)) (pc2 := 131) d_X_featureOf_128 rfl rfl (rfl) (by decide) (fun c3 => ?_) (fun c3 => ?_)
        · refine r_aload_n (x := some (fe 0 fN)) (pc2 := 136) d_X_featureOf_135 rfl rfl ?_
          refine q_getI (x := nI tofN) (pc2 := 139) d_X_featureOf_136 rfl k_X_384 (by decide) (sh_fe0 hS (show 0 < 3 by decide) (show fN < 12 by omega)) (x8fN.trans a9fN) ?_
          refine r_aload_n (x := some (fe 0 fN)) (pc2 := 140) d_X_featureOf_139 rfl rfl ?_
          refine q_getI (x := nI frfN) (pc2 := 143) d_X_featureOf_140 rfl k_X_387 (by decide) (sh_fe0 hS (show 0 < 3 by decide) (show fN < 12 by omega)) (x7fN.trans a8fN) ?_
          refine r_isub (pc2 := 144) d_X_featureOf_143 rfl ?_
          refine r_iconst (v := nI 1) (pc2 := 145) d_X_featureOf_144 rfl (by decide) ?_
          refine r_iadd (pc2 := 146) d_X_featureOf_145 rfl ?_
          refine Run.ret (some (.int (((nI tofN) - (nI frfN)) + (nI 1)))) d_X_featureOf_146 ⟨_, rfl⟩ ?_
          first | (exfalso; omega) | exact XP.val (by (try simp only [efN, b0fN, b1fN, b2fN, b3fN, b4fN, b5fN, b6fN, b8fN, b9fN, ek0, Nat.reduceAdd, Int.toNat_natCast] at c1 c3); (unfold o_featureOf); (try dsimp only); (try simp only [efN, b0fN, b1fN, b2fN, b3fN, b4fN, b5fN, b6fN, b8fN, b9fN, ek0, Nat.reduceAdd, Int.toNat_natCast]); (repeat (first | rw [if_pos (by omega)] | rw [if_neg (by omega)])); (try rfl); (all_goals first | rfl | (simp only [a0fN, a1fN, a2fN, a3fN, a4fN, a5fN, a6fN, a8fN, a9fN]; done) | (congr 2 <;> omega) | ((repeat' split) <;> first | rfl | (simp only [a0fN, a1fN, a2fN, a3fN, a4fN, a5fN, a6fN, a8fN, a9fN]; done) | (exfalso; omega) | (congr 2 <;> omega) | skip))) FrXR.rf FrX.rf
        · refine r_iconst (v := nI 0) (pc2 := 132) d_X_featureOf_131 rfl (by decide) ?_
          refine r_goto (tgt := 146) d_X_featureOf_132 rfl ?_
          refine Run.ret (some (.int (nI 0))) d_X_featureOf_146 ⟨_, rfl⟩ ?_
          first | (exfalso; omega) | exact XP.val (by (try simp only [efN, b0fN, b1fN, b2fN, b3fN, b4fN, b5fN, b6fN, b8fN, b9fN, ek0, Nat.reduceAdd, Int.toNat_natCast] at c1 c3); (unfold o_featureOf); (try dsimp only); (try simp only [efN, b0fN, b1fN, b2fN, b3fN, b4fN, b5fN, b6fN, b8fN, b9fN, ek0, Nat.reduceAdd, Int.toNat_natCast]); (repeat (first | rw [if_pos (by omega)] | rw [if_neg (by omega)])); (try rfl); (all_goals first | rfl | (simp only [a0fN, a1fN, a2fN, a3fN, a4fN, a5fN, a6fN, a8fN, a9fN]; done) | (congr 2 <;> omega) | ((repeat' split) <;> first | rfl | (simp only [a0fN, a1fN, a2fN, a3fN, a4fN, a5fN, a6fN, a8fN, a9fN]; done) | (exfalso; omega) | (congr 2 <;> omega) | skip))) FrXR.rf FrX.rf
      · obtain rfl : t2 = 147 := by
          have hh : (some (121 : Int)) = some off := by rw [c2e] at c2o; exact c2o
          cases hh; omega
        obtain rfl : k = nI 9 := eq_nI (by omega)
        have ek0 : (nI 9).toInt = ((9 : Nat) : Int) := rfl
        refine r_aload_n (x := some (fe 0 fN)) (pc2 := 148) d_X_featureOf_147 rfl rfl ?_
        refine q_getR (x := some (fe 0 fN + 5)) (pc2 := 151) d_X_featureOf_148 rfl k_X_365 rfl (sh_fe0 hS (show 0 < 3 by decide) (show fN < 12 by omega)) (rf_fe_10 hR (show 0 < 3 by decide) (show fN < 12 by omega)) ?_
        refine q_calls (M2 := mi_X_countSome) (pc2 := 154) d_X_featureOf_151 rfl k_X_289 cm_X_countSome cs_X_countSome rfl rfl (Nat.le_of_ble_eq_true rfl) (c_X_countSome (J := I) hS hR (A := fe 0 fN + 5) (sh_fe5 hS (show 0 < 3 by decide) (show fN < 12 by omega))) (d2 := d - 1) (by omega) (Nat.le_of_eq (Nat.zero_add _)) (Nat.le_of_eq (Nat.zero_add _)) ?_
        refine q_top (y := nI (cnt (keptP G fN) nP)) (FR.nkp hP24 (hD.2.2.2.1 fN (by omega))) ?_
        refine Run.ret (some (.int (nI (cnt (keptP G fN) nP)))) d_X_featureOf_154 ⟨_, rfl⟩ ?_
        first | (exfalso; omega) | exact XP.val (by (try simp only [efN, b0fN, b1fN, b2fN, b3fN, b4fN, b5fN, b6fN, b8fN, b9fN, ek0, Nat.reduceAdd, Int.toNat_natCast] at c1); (unfold o_featureOf); (try dsimp only); (try simp only [efN, b0fN, b1fN, b2fN, b3fN, b4fN, b5fN, b6fN, b8fN, b9fN, ek0, Nat.reduceAdd, Int.toNat_natCast]); (repeat (first | rw [if_pos (by omega)] | rw [if_neg (by omega)])); (try rfl); (all_goals first | rfl | (simp only [a0fN, a1fN, a2fN, a3fN, a4fN, a5fN, a6fN, a8fN, a9fN]; done) | (congr 2 <;> omega) | ((repeat' split) <;> first | rfl | (simp only [a0fN, a1fN, a2fN, a3fN, a4fN, a5fN, a6fN, a8fN, a9fN]; done) | (exfalso; omega) | (congr 2 <;> omega) | skip))) FrXR.rf FrX.rf
    · refine r_aload_n (x := some 0) (pc2 := 156) d_X_featureOf_155 rfl rfl ?_
      refine r_bipush (v := (-32 : Int32)) (pc2 := 158) d_X_featureOf_156 rfl (by decide) ?_
      refine q_callv (M2 := mi_X_refuse) (pc2 := 161) d_X_featureOf_158 rfl k_X_75 cm_X_refuse cv_X_refuse (sh_0 hS) (by decide) rfl rfl rfl (Nat.le_of_ble_eq_true rfl) (c_X_refuse_0 (J := I) hS hR) (d2 := d - 1) (by omega) (Nat.le_of_eq (Nat.zero_add _)) (Nat.le_of_eq (Nat.zero_add _)) ?_
      obtain ⟨I4, hI4⟩ : ∃ x, x = u2 I 744 0 (I 744 0 + nI 1) := ⟨_, rfl⟩
      rw [← hI4]
      refine Run.ret (some (.int ((-32 : Int32)))) d_X_featureOf_161 ⟨_, rfl⟩ ?_
      first | (exfalso; omega) | exact XP.bad hS 0 (by (try simp only [efN, b0fN, b1fN, b2fN, b3fN, b4fN, b5fN, b6fN, b8fN, b9fN, Int.toNat_natCast] at c1 c2); (unfold o_featureOf); (try dsimp only); (try simp only [efN, b0fN, b1fN, b2fN, b3fN, b4fN, b5fN, b6fN, b8fN, b9fN, Int.toNat_natCast]); (repeat (first | rw [if_pos (by omega)] | rw [if_neg (by omega)])); (try rfl); (all_goals first | rfl | (simp only [a0fN, a1fN, a2fN, a3fN, a4fN, a5fN, a6fN, a8fN, a9fN]; done) | (congr 2 <;> omega) | ((repeat' split) <;> first | rfl | (simp only [a0fN, a1fN, a2fN, a3fN, a4fN, a5fN, a6fN, a8fN, a9fN]; done) | (exfalso; omega) | (congr 2 <;> omega) | skip))) (by decide) FrXR.rf FrX.rf hI4
  · refine r_aload_n (x := some 0) (pc2 := 9) d_X_featureOf_8 rfl rfl ?_
    refine r_bipush (v := (-32 : Int32)) (pc2 := 11) d_X_featureOf_9 rfl (by decide) ?_
    refine q_callv (M2 := mi_X_refuse) (pc2 := 14) d_X_featureOf_11 rfl k_X_75 cm_X_refuse cv_X_refuse (sh_0 hS) (by decide) rfl rfl rfl (Nat.le_of_ble_eq_true rfl) (c_X_refuse_0 (J := I) hS hR) (d2 := d - 1) (by omega) (Nat.le_of_eq (Nat.zero_add _)) (Nat.le_of_eq (Nat.zero_add _)) ?_
    obtain ⟨I5, hI5⟩ : ∃ x, x = u2 I 744 0 (I 744 0 + nI 1) := ⟨_, rfl⟩
    rw [← hI5]
    refine Run.ret (some (.int ((-32 : Int32)))) d_X_featureOf_14 ⟨_, rfl⟩ ?_
    first | (exfalso; omega) | exact XP.bad hS 0 (by (unfold o_featureOf); (try dsimp only); (try simp only [Int.toNat_natCast]); (repeat (first | rw [if_pos (by omega)] | rw [if_neg (by omega)])); (try rfl); (all_goals first | rfl | (congr 2 <;> omega) | ((repeat' split) <;> first | rfl | (exfalso; omega) | (congr 2 <;> omega) | skip))) (by decide) FrXR.rf FrX.rf hI5
