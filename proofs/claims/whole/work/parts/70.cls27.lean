/-! THE CLASS: needs, on -/
/-- one more need -/
theorem FR.need {K F C S : Nat → Int32} {I J1 J2 J : Nat → Nat → Int32} {R : Nat → Nat → Option Nat} {sh : Nat → Nat × Nat} {nt d nP nF E n : Nat} {G : Nat → Int32} {x v : Int32} (hd : d < 3) (hE : E < 12) (hP : nP ≤ 24) (hw : WFF G nF nt E) (hn : nNof G E = n) (hn3 : n < 3) (h : FR K F C S I R sh nt d G nP E) (e1 : J1 = u2 I (fe d E + 2) n x) (e2 : J2 = u2 J1 (fe d E + 3) n v) (e : J = u2 J2 (fe d E) 8 (nI (n + 1))) :
    FR K F C S J R sh nt d (u1 (u1 (u1 G (174 + 84 * E + (14 + 2 * n)) x) (174 + 84 * E + (14 + 2 * n + 1)) v) (174 + 84 * E + 5) (nI (n + 1))) nP E := by
  obtain ⟨tp, kl, sk, fb, nR, nN, nO, fr, to, -, -, -, -, ⟨-, b4, c4, -⟩, ⟨-, b5, c5, -⟩, ⟨-, b6, c6, -⟩, -⟩ := wfn hw
  obtain ⟨⟨x0, x1, x2, x3, x4, x5, x6, x7, x8⟩, y2, y3, y4, y5, y6⟩ := h
  have hfl := fe_lt hd hE
  have hr6 : nRof G E ≤ 6 := by unfold nRof; rw [b4, Int.toNat_natCast]; exact c4
  have ho8 : nOof G E ≤ 8 := by unfold nOof; rw [b6, Int.toNat_natCast]; exact c6
  obtain ⟨G', hG'⟩ : ∃ G', G' = u1 (u1 (u1 G (174 + 84 * E + (14 + 2 * n)) x) (174 + 84 * E + (14 + 2 * n + 1)) v) (174 + 84 * E + 5) (nI (n + 1)) := ⟨_, rfl⟩
  rw [← hG']
  have hg : ∀ j, (j < 174 + 84 * E + 5 ∨ (174 + 84 * E + 5 < j ∧ j < 174 + 84 * E + 14) ∨ 174 + 84 * E + 20 ≤ j) → G' j = G j := fun j hj => by rw [hG', u1_o (by omega), u1_o (by omega), u1_o (by omega)]
  have h5 : G' (174 + 84 * E + 5) = nI (n + 1) := by rw [hG', u1_i]
  have hN : nNof G' E = n + 1 := by unfold nNof; rw [h5, nI_toInt (by omega), Int.toNat_natCast]
  have hR : nRof G' E = nRof G E := by unfold nRof; rw [hg _ (by omega)]
  have hj : ∀ k j, k < 19 → k ≠ 0 → k ≠ 2 → k ≠ 3 → J (fe d E + k) j = I (fe d E + k) j := fun k j h1 h2 h3 h4 => by rw [rd_ne e (by omega), rd_ne e2 (by omega), rd_ne e1 (by omega)]
  have hj0 : ∀ j, j ≠ 8 → J (fe d E) j = I (fe d E) j := fun j h1 => by rw [rd_nk e h1, rd_ne e2 (by omega), rd_ne e1 (by omega)]
  refine ⟨⟨by rw [hj0 0 (by decide), hg _ (by omega)]; exact x0, by rw [hj0 1 (by decide), hg _ (by omega)]; exact x1, by rw [hj0 2 (by decide), hg _ (by omega)]; exact x2, by rw [hj0 3 (by decide), hg _ (by omega)]; exact x3, by rw [hj0 5 (by decide), hg _ (by omega)]; exact x4, by rw [rd_eq e, h5], by rw [hj0 12 (by decide), hg _ (by omega)]; exact x6, by rw [hj0 13 (by decide), hg _ (by omega)]; exact x7, by rw [hj0 14 (by decide), hg _ (by omega)]; exact x8⟩, fun m hm => ?_, fun p hp => ?_, fun p hp => ?_, fun v hv => ?_, fun r hr2 => ?_⟩
  · rw [hN] at hm
    by_cases q : m = n
    · subst q
      refine ⟨?_, ?_⟩
      · rw [rd_ne e (by omega), rd_ne e2 (by omega), rd_eq e1, hG', u1_o (by omega), u1_o (by omega), u1_i]
      · rw [rd_ne e (by omega), rd_eq e2, hG', u1_o (by omega), u1_i]
    · rw [rd_ne e (by omega), rd_ne e2 (by omega), rd_nk e1 q, rd_ne e (by omega), rd_nk e2 q, rd_ne e1 (by omega), hG', u1_o (by omega), u1_o (by omega), u1_o (by omega), u1_o (by omega), u1_o (by omega), u1_o (by omega)]; exact y2 m (by omega)
  · rw [hj 4 _ (by decide) (by decide) (by decide) (by decide), y3 p hp]
    by_cases q : p < nP
    · rw [if_pos q, if_pos q, hg _ (by omega), ovV_c (fun w hw => hg _ (by omega)) ho8]
    · rw [if_neg q, if_neg q]
  · rw [hj 5 _ (by decide) (by decide) (by decide) (by decide), hg _ (by omega)]; exact y4 p hp
  · rw [hj 6 _ (by decide) (by decide) (by decide) (by decide), hg _ (by omega)]; exact y5 v hv
  · rw [hR] at hr2
    exact (y6 r hr2).c (fun a j h1 _ => by rw [rd_ne e (by omega), rd_ne e2 (by omega), rd_ne e1 (by omega)]) (fun _ _ _ => rfl) (fun j => hj (7 + 2 * r) j (by omega) (by omega) (by omega) (by omega)) (fun j => by have := hj (8 + 2 * r) j (by omega) (by omega) (by omega) (by omega); rwa [show fe d E + (8 + 2 * r) = ru d E r + 1 by unfold ru; omega] at this) rfl (fun k hk => hg _ (by omega))
theorem c_Fe_addNeed {d : Nat} {J : Nat → Nat → Int32} {R : Nat → Nat → Option Nat} {L : Nat → Nat → Int64} {sh : Nat → Nat × Nat} {N : Nat} (hS : ShOK sh) (hR : RfOK R) {F : Nat} (hF : F < 12) {n : Nat} (hn : J (fe 0 F) 8 = nI n) (hn3 : n < 3) {x v : Int32} : Mt mi_Fe_addNeed d 0 0 [.ref (fe 0 F), .int x, .int v] (J, R, L, sh, N) (fun r h2 => r = none ∧ ∃ K1 K2 K, h2 = (K, R, L, sh, N) ∧ K1 = u2 J (fe 0 F + 2) n x ∧ K2 = u2 K1 (fe 0 F + 3) n v ∧ K = u2 K2 (fe 0 F) 8 (nI (n + 1))) := by
  refine Mt.of pn_Fe (Nat.le_of_ble_eq_true rfl) ?_
  show Run mi_Fe_addNeed d 0 0 0 [(0, .ref (fe 0 F)), (1, .int x), (2, .int v)] [] (J, R, L, sh, N) _
  refine r_aload_n (x := some (fe 0 F)) (pc2 := 1) d_Fe_addNeed_0 rfl rfl ?_
  refine q_getI (x := nI n) (pc2 := 4) d_Fe_addNeed_1 rfl k_Fe_40 (by decide) (sh_fe0 hS (show 0 < 3 by decide) hF) hn ?_
  refine r_iconst (v := nI 3) (pc2 := 5) d_Fe_addNeed_4 rfl (by decide) ?_
  refine q_icmp_lt (tgt := 9) (A := ((n : Nat) : Int)) (B := (3 : Int)) (pc2 := 8) d_Fe_addNeed_5 rfl rfl (nI_toInt (by omega)) (nI_toInt (by omega)) (fun c1 => ?_) (fun c1 => ?_)
  · refine r_aload_n (x := some (fe 0 F)) (pc2 := 10) d_Fe_addNeed_9 rfl rfl ?_
    refine q_getR (x := some (fe 0 F + 2)) (pc2 := 13) d_Fe_addNeed_10 rfl k_Fe_33 rfl (sh_fe0 hS (show 0 < 3 by decide) hF) (rf_fe_6 hR (show 0 < 3 by decide) hF) ?_
    refine r_aload_n (x := some (fe 0 F)) (pc2 := 14) d_Fe_addNeed_13 rfl rfl ?_
    refine q_getI (x := nI n) (pc2 := 17) d_Fe_addNeed_14 rfl k_Fe_40 (by decide) (sh_fe0 hS (show 0 < 3 by decide) hF) hn ?_
    refine r_iload_n (pc2 := 18) d_Fe_addNeed_17 rfl rfl ?_
    refine q_iastore (q := n) (pc2 := 19) d_Fe_addNeed_18 rfl (sh_fe2 hS (show 0 < 3 by decide) hF) (nI_toInt (by omega)) (by omega) (fun I2 hI2 => ?_)
    refine r_aload_n (x := some (fe 0 F)) (pc2 := 20) d_Fe_addNeed_19 rfl rfl ?_
    refine q_getR (x := some (fe 0 F + 3)) (pc2 := 23) d_Fe_addNeed_20 rfl k_Fe_37 rfl (sh_fe0 hS (show 0 < 3 by decide) hF) (rf_fe_7 hR (show 0 < 3 by decide) hF) ?_
    refine r_aload_n (x := some (fe 0 F)) (pc2 := 24) d_Fe_addNeed_23 rfl rfl ?_
    refine q_getI (x := nI n) (pc2 := 27) d_Fe_addNeed_24 rfl k_Fe_40 (by decide) (sh_fe0 hS (show 0 < 3 by decide) hF) ((rd_ne hI2 (by omega)).trans (hn)) ?_
    refine r_iload_n (pc2 := 28) d_Fe_addNeed_27 rfl rfl ?_
    refine q_iastore (q := n) (pc2 := 29) d_Fe_addNeed_28 rfl (sh_fe3 hS (show 0 < 3 by decide) hF) (nI_toInt (by omega)) (by omega) (fun I3 hI3 => ?_)
    refine r_aload_n (x := some (fe 0 F)) (pc2 := 30) d_Fe_addNeed_29 rfl rfl ?_
    refine r_dup (pc2 := 31) d_Fe_addNeed_30 rfl rfl ?_
    refine q_getI (x := nI n) (pc2 := 34) d_Fe_addNeed_31 rfl k_Fe_40 (by decide) (sh_fe0 hS (show 0 < 3 by decide) hF) ((rd_ne hI3 (by omega)).trans ((rd_ne hI2 (by omega)).trans (hn))) ?_
    refine r_iconst (v := nI 1) (pc2 := 35) d_Fe_addNeed_34 rfl (by decide) ?_
    refine q_iaddN (pc2 := 36) d_Fe_addNeed_35 rfl ?_
    refine q_putI (pc2 := 39) d_Fe_addNeed_36 rfl k_Fe_40 (Or.inl rfl) (sh_fe0 hS (show 0 < 3 by decide) hF) (Or.inl rfl) (fun I4 hI4 => ?_)
    refine Run.ret none d_Fe_addNeed_39 rfl ?_
    first | (exfalso; omega) | exact ⟨rfl, _, _, _, rfl, hI2, hI3, hI4⟩
  · refine Run.ret none d_Fe_addNeed_8 rfl ?_
    exfalso; omega
theorem c_X_needs {d : Nat} {I : Nat → Nat → Int32} {R : Nat → Nat → Option Nat} {L : Nat → Nat → Int64} {sh : Nat → Nat × Nat} {N : Nat} (hS : ShOK sh) (hR : RfOK R) {tK tF tC tS : Nat → Int32} {nt : Nat} (hV : TV tK tF tC nt) (hV2 : TV2 tK tF tC tS nt) (hnt6 : nt ≤ 1000000) {G : Nat → Int32} {nP nF nS : Nat} (hW : WFA G nP nF nt) (hWT : WFT G nF nS) (hKW : WFK G nP nF) {rk : Nat → Nat} (hrk : RK G nF rk) (hD : DR tK tF tC tS I R sh nt 0 G nP nF nS) {f : Int32} {x : Int32} {v : Int32} (hd : 90 ≤ d) : Mt mi_X_needs d 0 0 [.ref 0, .int f, .int x, .int v] (I, R, L, sh, N) (XD I R L sh N (o_needs G nF f x v) (PD tK tF tC tS I R sh nt (g_needs G nF f x v) nP nF nS)) := by
  obtain ⟨hPc, hP24, hFc, hF12, hWF, hWP⟩ := id hW
  have hS24 := hWT.2.1
  refine Mt.of pn_X (Nat.le_of_ble_eq_true rfl) ?_
  show Run mi_X_needs d 0 0 0 [(0, .ref 0), (1, .int f), (2, .int x), (3, .int v)] [] (I, R, L, sh, N) _
  refine r_aload_n (x := some 0) (pc2 := 1) d_X_needs_0 rfl rfl ?_
  refine r_iload_n (pc2 := 2) d_X_needs_1 rfl rfl ?_
  refine q_callv (M2 := mi_X_isFeature) (pc2 := 5) d_X_needs_2 rfl k_X_220 cm_X_isFeature cv_X_isFeature (sh_0 hS) (by decide) rfl rfl rfl (Nat.le_of_ble_eq_true rfl) (c_X_isFeature (f := f) hS hR hV hV2 hnt6 hW hWT hKW hrk hD) (d2 := d - 1) (by omega) (Nat.le_of_eq (Nat.zero_add _)) (Nat.le_of_eq (Nat.zero_add _)) ?_
  refine q_bif_eq (tgt := 17) (pc2 := 8) d_X_needs_5 rfl rfl (fun c1 => ?_) (fun c1 => ?_)
  · refine r_aload_n (x := some 0) (pc2 := 18) d_X_needs_17 rfl rfl ?_
    refine r_bipush (v := (-32 : Int32)) (pc2 := 20) d_X_needs_18 rfl (by decide) ?_
    refine q_callv (M2 := mi_X_refuse) (pc2 := 23) d_X_needs_20 rfl k_X_75 cm_X_refuse cv_X_refuse (sh_0 hS) (by decide) rfl rfl rfl (Nat.le_of_ble_eq_true rfl) (c_X_refuse_0 (J := I) hS hR) (d2 := d - 1) (by omega) (Nat.le_of_eq (Nat.zero_add _)) (Nat.le_of_eq (Nat.zero_add _)) ?_
    obtain ⟨I2, hI2⟩ : ∃ x, x = u2 I 744 0 (I 744 0 + nI 1) := ⟨_, rfl⟩
    rw [← hI2]
    refine Run.ret (some (.int ((-32 : Int32)))) d_X_needs_23 ⟨_, rfl⟩ ?_
    first | (exfalso; omega) | exact XD.bad hS 0 (by (try simp only [g_needs1, Int.toNat_natCast] at c1); (unfold o_needs); (try dsimp only); (try simp only [g_needs1, Int.toNat_natCast]); (repeat (first | rw [if_pos (by omega)] | rw [if_neg (by omega)])); (try rfl); (all_goals first | rfl | (congr 2 <;> omega) | ((repeat' split) <;> first | rfl | (exfalso; omega) | (congr 2 <;> omega) | skip))) (by decide) FrXR.rf FrX.rf hI2
  · obtain ⟨fN, hfN, rfl, efN⟩ := nat_of c1
    obtain ⟨tpfN, klfN, skfN, fbfN, nRfN, nNfN, nOfN, frfN, tofN, ⟨a0fN, b0fN, cc0fN, dd0fN⟩, ⟨a1fN, b1fN, cc1fN, dd1fN⟩, ⟨a2fN, b2fN, cc2fN, dd2fN⟩, ⟨a3fN, b3fN, cc3fN, dd3fN⟩, ⟨a4fN, b4fN, cc4fN, dd4fN⟩, ⟨a5fN, b5fN, cc5fN, dd5fN⟩, ⟨a6fN, b6fN, cc6fN, dd6fN⟩, ⟨a8fN, b8fN, cc8fN, dd8fN⟩, ⟨a9fN, b9fN, cc9fN, dd9fN⟩⟩ := wfn (hWF fN (by omega))
    obtain ⟨-, -, -, -, -, -, -, w7fN, -, -, wNfN, wRfN, wKfN, wOfN⟩ := hWF fN (by omega)
    obtain ⟨⟨x0fN, x1fN, x2fN, x3fN, x4fN, x5fN, x6fN, x7fN, x8fN⟩, xnfN, xofN, xkfN, xcfN, xrfN⟩ := hD.2.2.2.1 fN (by omega)
    have hflfN := fe_lt (e := 0) (by decide) (show fN < 12 by omega)
    unfold dk at hflfN
    refine r_aload_n (x := some 0) (pc2 := 9) d_X_needs_8 rfl rfl ?_
    refine r_iload_n (pc2 := 10) d_X_needs_9 rfl rfl ?_
    refine r_iload_n (pc2 := 11) d_X_needs_10 rfl rfl ?_
    refine q_callv (M2 := mi_X_isVariant) (pc2 := 14) d_X_needs_11 rfl k_X_271 cm_X_isVariant cv_X_isVariant (sh_0 hS) (by decide) rfl rfl rfl (Nat.le_of_ble_eq_true rfl) (c_X_isVariant (f := x) (v := v) hS hR hV hV2 hnt6 hW hWT hKW hrk hD (by omega)) (d2 := d - 1) (by omega) (Nat.le_of_eq (Nat.zero_add _)) (Nat.le_of_eq (Nat.zero_add _)) ?_
    refine q_bif_ne (tgt := 24) (pc2 := 17) d_X_needs_14 rfl rfl (fun c3 => ?_) (fun c3 => ?_)
    · obtain ⟨xN, hxN, rfl, exN⟩ := nat_of c3.1
      obtain ⟨tpxN, klxN, skxN, fbxN, nRxN, nNxN, nOxN, frxN, toxN, ⟨a0xN, b0xN, cc0xN, dd0xN⟩, ⟨a1xN, b1xN, cc1xN, dd1xN⟩, ⟨a2xN, b2xN, cc2xN, dd2xN⟩, ⟨a3xN, b3xN, cc3xN, dd3xN⟩, ⟨a4xN, b4xN, cc4xN, dd4xN⟩, ⟨a5xN, b5xN, cc5xN, dd5xN⟩, ⟨a6xN, b6xN, cc6xN, dd6xN⟩, ⟨a8xN, b8xN, cc8xN, dd8xN⟩, ⟨a9xN, b9xN, cc9xN, dd9xN⟩⟩ := wfn (hWF xN (by omega))
      obtain ⟨-, -, -, -, -, -, -, w7xN, -, -, wNxN, wRxN, wKxN, wOxN⟩ := hWF xN (by omega)
      obtain ⟨⟨x0xN, x1xN, x2xN, x3xN, x4xN, x5xN, x6xN, x7xN, x8xN⟩, xnxN, xoxN, xkxN, xcxN, xrxN⟩ := hD.2.2.2.1 xN (by omega)
      have hflxN := fe_lt (e := 0) (by decide) (show xN < 12 by omega)
      unfold dk at hflxN
      simp only [exN, Int.toNat_natCast, b0xN] at c3
      obtain ⟨vN, hvN, gvN, rfl, evN⟩ := nat_of' (Int.le_refl 0) c3.2
      refine r_iload_n (pc2 := 25) d_X_needs_24 rfl rfl ?_
      refine r_iload_n (pc2 := 26) d_X_needs_25 rfl rfl ?_
      refine q_icmp_eq (tgt := 44) (A := ((fN : Nat) : Int)) (B := ((xN : Nat) : Int)) (pc2 := 29) d_X_needs_26 rfl rfl (nI_toInt (by omega)) (nI_toInt (by omega)) (fun c4 => ?_) (fun c4 => ?_)
      · refine r_aload_n (x := some 0) (pc2 := 45) d_X_needs_44 rfl rfl ?_
        refine r_bipush (v := (-35 : Int32)) (pc2 := 47) d_X_needs_45 rfl (by decide) ?_
        refine q_callv (M2 := mi_X_refuse) (pc2 := 50) d_X_needs_47 rfl k_X_75 cm_X_refuse cv_X_refuse (sh_0 hS) (by decide) rfl rfl rfl (Nat.le_of_ble_eq_true rfl) (c_X_refuse_3 (J := I) hS hR) (d2 := d - 1) (by omega) (Nat.le_of_eq (Nat.zero_add _)) (Nat.le_of_eq (Nat.zero_add _)) ?_
        obtain ⟨I5, hI5⟩ : ∃ x, x = u2 I 744 3 (I 744 3 + nI 1) := ⟨_, rfl⟩
        rw [← hI5]
        refine Run.ret (some (.int ((-35 : Int32)))) d_X_needs_50 ⟨_, rfl⟩ ?_
        first | (exfalso; omega) | exact XD.bad hS 3 (by (try simp only [g_needs1, efN, b0fN, b1fN, b2fN, b3fN, b4fN, b5fN, b6fN, b8fN, b9fN, exN, b0xN, b1xN, b2xN, b3xN, b4xN, b5xN, b6xN, b8xN, b9xN, evN, Int.toNat_natCast] at c1 c3 c4); (unfold o_needs); (try dsimp only); (try simp only [g_needs1, efN, b0fN, b1fN, b2fN, b3fN, b4fN, b5fN, b6fN, b8fN, b9fN, exN, b0xN, b1xN, b2xN, b3xN, b4xN, b5xN, b6xN, b8xN, b9xN, evN, Int.toNat_natCast]); (repeat (first | rw [if_pos (by omega)] | rw [if_neg (by omega)])); (try rfl); (all_goals first | rfl | (simp only [a0fN, a1fN, a2fN, a3fN, a4fN, a5fN, a6fN, a8fN, a9fN, a0xN, a1xN, a2xN, a3xN, a4xN, a5xN, a6xN, a8xN, a9xN]; done) | (congr 2 <;> omega) | ((repeat' split) <;> first | rfl | (simp only [a0fN, a1fN, a2fN, a3fN, a4fN, a5fN, a6fN, a8fN, a9fN, a0xN, a1xN, a2xN, a3xN, a4xN, a5xN, a6xN, a8xN, a9xN]; done) | (exfalso; omega) | (congr 2 <;> omega) | skip))) (by decide) FrXR.rf FrX.rf hI5
      · refine r_aload_n (x := some 0) (pc2 := 30) d_X_needs_29 rfl rfl ?_
        refine q_getR (x := some 1) (pc2 := 33) d_X_needs_30 rfl k_X_12 rfl (sh_0 hS) (rf_0_0 hR) ?_
        refine r_iload_n (pc2 := 34) d_X_needs_33 rfl rfl ?_
        refine q_callv (M2 := mi_De_neededBy) (pc2 := 37) d_X_needs_34 rfl k_X_274 cm_De_neededBy cv_De_neededBy (sh_1 hS) (by decide) rfl rfl rfl (Nat.le_of_ble_eq_true rfl) (c_De_neededBy (F := xN) hS hR hV hV2 hnt6 hW hWT hKW hrk hD (by omega) (by omega)) (d2 := d - 1) (by omega) (Nat.le_of_eq (Nat.zero_add _)) (Nat.le_of_eq (Nat.zero_add _)) ?_
        refine r_iload_n (pc2 := 38) d_X_needs_37 rfl rfl ?_
        refine q_calls (M2 := mi_X_hasBit) (pc2 := 41) d_X_needs_38 rfl k_X_277 cm_X_hasBit cs_X_hasBit rfl rfl (Nat.le_of_ble_eq_true rfl) (c_X_hasBit (x := nds G nF xN) (i := fN) (by omega)) (d2 := d - 1) (by omega) (Nat.le_of_eq (Nat.zero_add _)) (Nat.le_of_eq (Nat.zero_add _)) ?_
        refine q_bif_eq (tgt := 51) (pc2 := 44) d_X_needs_41 rfl rfl (fun c6 => ?_) (fun c6 => ?_)
        · have hbz := c6
          refine r_aload_n (x := some 0) (pc2 := 52) d_X_needs_51 rfl rfl ?_
          refine q_getR (x := some 1) (pc2 := 55) d_X_needs_52 rfl k_X_12 rfl (sh_0 hS) (rf_0_0 hR) ?_
          refine q_getR (x := some 5) (pc2 := 58) d_X_needs_55 rfl k_X_211 rfl (sh_1 hS) (rf_1_1 hR) ?_
          refine r_iload_n (pc2 := 59) d_X_needs_58 rfl rfl ?_
          refine q_aaload (q := fN) (x := some (fe 0 fN)) (pc2 := 60) d_X_needs_59 rfl (sh_5 hS) (by decide) (by decide) (nI_toInt (by omega)) (by omega) (rf_fe hR (show 0 < 3 by decide) (show fN < 12 by omega)) ?_
          refine r_astore (x := some (fe 0 fN)) (pc2 := 62) d_X_needs_60 rfl (Nat.le_of_ble_eq_true rfl) ?_
          refine r_aload (x := some (fe 0 fN)) (pc2 := 64) d_X_needs_62 rfl rfl ?_
          refine q_getI (x := nI nNfN) (pc2 := 67) d_X_needs_64 rfl k_X_280 (by decide) (sh_fe0 hS (show 0 < 3 by decide) (show fN < 12 by omega)) (x5fN.trans a5fN) ?_
          refine r_iconst (v := nI 3) (pc2 := 68) d_X_needs_67 rfl (by decide) ?_
          refine q_icmp_lt (tgt := 78) (A := ((nNfN : Nat) : Int)) (B := (3 : Int)) (pc2 := 71) d_X_needs_68 rfl rfl (nI_toInt (by omega)) (nI_toInt (by omega)) (fun c7 => ?_) (fun c7 => ?_)
          · refine r_aload (x := some (fe 0 fN)) (pc2 := 80) d_X_needs_78 rfl rfl ?_
            refine r_iload_n (pc2 := 81) d_X_needs_80 rfl rfl ?_
            refine r_iload_n (pc2 := 82) d_X_needs_81 rfl rfl ?_
            refine r_callv (M2 := mi_Fe_addNeed) (pc2 := 85) d_X_needs_82 rfl k_X_283 cm_Fe_addNeed cv_Fe_addNeed (sh_fe0 hS (show 0 < 3 by decide) (show fN < 12 by omega)) (by decide) rfl rfl rfl (Nat.le_of_ble_eq_true rfl) (c_Fe_addNeed (J := I) hS hR (F := fN) (by omega) (n := nNfN) (x5fN.trans a5fN) (by omega) (x := nI xN) (v := nI vN)) (d2 := d - 1) (by omega) (Nat.le_of_eq (Nat.zero_add _)) (Nat.le_of_eq (Nat.zero_add _)) (fun r2 h2 hq2 => ?_)
            obtain ⟨rfl, I8, I9, I10, rfl, hI8, hI9, hI10⟩ := hq2
            change Run _ _ _ _ _ _ [] _ _
            refine r_aload (x := some (fe 0 fN)) (pc2 := 87) d_X_needs_85 rfl rfl ?_
            refine q_getI (x := nI (nNfN + 1)) (pc2 := 90) d_X_needs_87 rfl k_X_280 (by decide) (sh_fe0 hS (show 0 < 3 by decide) (show fN < 12 by omega)) (rd_eq hI10) ?_
            refine Run.ret (some (.int (nI (nNfN + 1)))) d_X_needs_90 ⟨_, rfl⟩ ?_
            first | (exfalso; omega) | exact XD.val (by (try simp only [g_needs1, efN, b0fN, b1fN, b2fN, b3fN, b4fN, b5fN, b6fN, b8fN, b9fN, exN, b0xN, b1xN, b2xN, b3xN, b4xN, b5xN, b6xN, b8xN, b9xN, evN, hbz, or_false, Bool.false_eq_true, Int.toNat_natCast] at c1 c3 c4 c6 c7); (unfold o_needs); (try dsimp only); (try simp only [g_needs1, efN, b0fN, b1fN, b2fN, b3fN, b4fN, b5fN, b6fN, b8fN, b9fN, exN, b0xN, b1xN, b2xN, b3xN, b4xN, b5xN, b6xN, b8xN, b9xN, evN, hbz, or_false, Bool.false_eq_true, Int.toNat_natCast]); (repeat (first | rw [if_pos (by omega)] | rw [if_neg (by omega)])); (try rfl); (all_goals first | rfl | (simp only [a0fN, a1fN, a2fN, a3fN, a4fN, a5fN, a6fN, a8fN, a9fN, a0xN, a1xN, a2xN, a3xN, a4xN, a5xN, a6xN, a8xN, a9xN]; done) | (congr 2 <;> omega) | ((repeat' split) <;> first | rfl | (simp only [a0fN, a1fN, a2fN, a3fN, a4fN, a5fN, a6fN, a8fN, a9fN, a0xN, a1xN, a2xN, a3xN, a4xN, a5xN, a6xN, a8xN, a9xN]; done) | (exfalso; omega) | (congr 2 <;> omega) | skip))) ⟨(((FrD.rf.put hI8 (Or.inl (by first | omega | (unfold ru; omega)))).put hI9 (Or.inl (by first | omega | (unfold ru; omega)))).put hI10 (Or.inl (by first | omega | (unfold ru; omega)))), FrRD.rf, by (try simp only [g_needs1, efN, b0fN, b1fN, b2fN, b3fN, b4fN, b5fN, b6fN, b8fN, b9fN, exN, b0xN, b1xN, b2xN, b3xN, b4xN, b5xN, b6xN, b8xN, b9xN, evN, hbz, or_false, Bool.false_eq_true, Int.toNat_natCast] at c1 c3 c4 c6 c7); (unfold g_needs); (try dsimp only); (try simp only [g_needs1, efN, b0fN, b1fN, b2fN, b3fN, b4fN, b5fN, b6fN, b8fN, b9fN, exN, b0xN, b1xN, b2xN, b3xN, b4xN, b5xN, b6xN, b8xN, b9xN, evN, hbz, or_false, Bool.false_eq_true, Int.toNat_natCast]); (repeat (first | rw [if_pos (by omega)] | rw [if_neg (by omega)])); exact DR.f1 hW hWT (E := fN) (by omega) hD (fun a j q => by rw [rd_ne hI10 (by omega), rd_ne hI9 (by omega), rd_ne hI8 (by omega)]) (fun j hj => by rw [u1_o (by omega), u1_o (by omega), u1_o (by omega)]) (FR.need (by decide) (by omega) hP24 (hWF fN (by omega)) (by unfold nNof; rw [b5fN, Int.toNat_natCast]) (by omega) (hD.2.2.2.1 fN (by omega)) hI8 hI9 hI10)⟩
          · refine r_aload_n (x := some 0) (pc2 := 72) d_X_needs_71 rfl rfl ?_
            refine r_bipush (v := (-36 : Int32)) (pc2 := 74) d_X_needs_72 rfl (by decide) ?_
            refine q_callv (M2 := mi_X_refuse) (pc2 := 77) d_X_needs_74 rfl k_X_75 cm_X_refuse cv_X_refuse (sh_0 hS) (by decide) rfl rfl rfl (Nat.le_of_ble_eq_true rfl) (c_X_refuse_4 (J := I) hS hR) (d2 := d - 1) (by omega) (Nat.le_of_eq (Nat.zero_add _)) (Nat.le_of_eq (Nat.zero_add _)) ?_
            obtain ⟨I11, hI11⟩ : ∃ x, x = u2 I 744 4 (I 744 4 + nI 1) := ⟨_, rfl⟩
            rw [← hI11]
            refine Run.ret (some (.int ((-36 : Int32)))) d_X_needs_77 ⟨_, rfl⟩ ?_
            first | (exfalso; omega) | exact XD.bad hS 4 (by (try simp only [g_needs1, efN, b0fN, b1fN, b2fN, b3fN, b4fN, b5fN, b6fN, b8fN, b9fN, exN, b0xN, b1xN, b2xN, b3xN, b4xN, b5xN, b6xN, b8xN, b9xN, evN, hbz, or_false, Bool.false_eq_true, Int.toNat_natCast] at c1 c3 c4 c6 c7); (unfold o_needs); (try dsimp only); (try simp only [g_needs1, efN, b0fN, b1fN, b2fN, b3fN, b4fN, b5fN, b6fN, b8fN, b9fN, exN, b0xN, b1xN, b2xN, b3xN, b4xN, b5xN, b6xN, b8xN, b9xN, evN, hbz, or_false, Bool.false_eq_true, Int.toNat_natCast]); (repeat (first | rw [if_pos (by omega)] | rw [if_neg (by omega)])); (try rfl); (all_goals first | rfl | (simp only [a0fN, a1fN, a2fN, a3fN, a4fN, a5fN, a6fN, a8fN, a9fN, a0xN, a1xN, a2xN, a3xN, a4xN, a5xN, a6xN, a8xN, a9xN]; done) | (congr 2 <;> omega) | ((repeat' split) <;> first | rfl | (simp only [a0fN, a1fN, a2fN, a3fN, a4fN, a5fN, a6fN, a8fN, a9fN, a0xN, a1xN, a2xN, a3xN, a4xN, a5xN, a6xN, a8xN, a9xN]; done) | (exfalso; omega) | (congr 2 <;> omega) | skip))) (by decide) FrXR.rf FrX.rf hI11
        · have hbz := c6
          refine r_aload_n (x := some 0) (pc2 := 45) d_X_needs_44 rfl rfl ?_
          refine r_bipush (v := (-35 : Int32)) (pc2 := 47) d_X_needs_45 rfl (by decide) ?_
          refine q_callv (M2 := mi_X_refuse) (pc2 := 50) d_X_needs_47 rfl k_X_75 cm_X_refuse cv_X_refuse (sh_0 hS) (by decide) rfl rfl rfl (Nat.le_of_ble_eq_true rfl) (c_X_refuse_3 (J := I) hS hR) (d2 := d - 1) (by omega) (Nat.le_of_eq (Nat.zero_add _)) (Nat.le_of_eq (Nat.zero_add _)) ?_
          obtain ⟨I12, hI12⟩ : ∃ x, x = u2 I 744 3 (I 744 3 + nI 1) := ⟨_, rfl⟩
          rw [← hI12]
          refine Run.ret (some (.int ((-35 : Int32)))) d_X_needs_50 ⟨_, rfl⟩ ?_
          first | (exfalso; omega) | exact XD.bad hS 3 (by (try simp only [g_needs1, efN, b0fN, b1fN, b2fN, b3fN, b4fN, b5fN, b6fN, b8fN, b9fN, exN, b0xN, b1xN, b2xN, b3xN, b4xN, b5xN, b6xN, b8xN, b9xN, evN, hbz, or_true, true_or, Int.toNat_natCast] at c1 c3 c4 c6); (unfold o_needs); (try dsimp only); (try simp only [g_needs1, efN, b0fN, b1fN, b2fN, b3fN, b4fN, b5fN, b6fN, b8fN, b9fN, exN, b0xN, b1xN, b2xN, b3xN, b4xN, b5xN, b6xN, b8xN, b9xN, evN, hbz, or_true, true_or, Int.toNat_natCast]); (repeat (first | rw [if_pos (by omega)] | rw [if_neg (by omega)])); (try rfl); (all_goals first | rfl | (simp only [a0fN, a1fN, a2fN, a3fN, a4fN, a5fN, a6fN, a8fN, a9fN, a0xN, a1xN, a2xN, a3xN, a4xN, a5xN, a6xN, a8xN, a9xN]; done) | (congr 2 <;> omega) | ((repeat' split) <;> first | rfl | (simp only [a0fN, a1fN, a2fN, a3fN, a4fN, a5fN, a6fN, a8fN, a9fN, a0xN, a1xN, a2xN, a3xN, a4xN, a5xN, a6xN, a8xN, a9xN]; done) | (exfalso; omega) | (congr 2 <;> omega) | skip))) (by decide) FrXR.rf FrX.rf hI12
    · refine r_aload_n (x := some 0) (pc2 := 18) d_X_needs_17 rfl rfl ?_
      refine r_bipush (v := (-32 : Int32)) (pc2 := 20) d_X_needs_18 rfl (by decide) ?_
      refine q_callv (M2 := mi_X_refuse) (pc2 := 23) d_X_needs_20 rfl k_X_75 cm_X_refuse cv_X_refuse (sh_0 hS) (by decide) rfl rfl rfl (Nat.le_of_ble_eq_true rfl) (c_X_refuse_0 (J := I) hS hR) (d2 := d - 1) (by omega) (Nat.le_of_eq (Nat.zero_add _)) (Nat.le_of_eq (Nat.zero_add _)) ?_
      obtain ⟨I13, hI13⟩ : ∃ x, x = u2 I 744 0 (I 744 0 + nI 1) := ⟨_, rfl⟩
      rw [← hI13]
      refine Run.ret (some (.int ((-32 : Int32)))) d_X_needs_23 ⟨_, rfl⟩ ?_
      first | (exfalso; omega) | exact XD.bad hS 0 (by (try simp only [g_needs1, efN, b0fN, b1fN, b2fN, b3fN, b4fN, b5fN, b6fN, b8fN, b9fN, Int.toNat_natCast] at c1 c3); (unfold o_needs); (try dsimp only); (try simp only [g_needs1, efN, b0fN, b1fN, b2fN, b3fN, b4fN, b5fN, b6fN, b8fN, b9fN, Int.toNat_natCast]); (repeat (first | rw [if_pos (by omega)] | rw [if_neg (by omega)])); (try rfl); (all_goals first | rfl | (simp only [a0fN, a1fN, a2fN, a3fN, a4fN, a5fN, a6fN, a8fN, a9fN]; done) | (congr 2 <;> omega) | ((repeat' split) <;> first | rfl | (simp only [a0fN, a1fN, a2fN, a3fN, a4fN, a5fN, a6fN, a8fN, a9fN]; done) | (exfalso; omega) | (congr 2 <;> omega) | skip))) (by decide) FrXR.rf FrX.rf hI13
