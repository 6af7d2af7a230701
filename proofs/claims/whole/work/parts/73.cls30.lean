/-! THE CLASS: pass, days -/
theorem WFK_congr {G G' : Nat → Int32} {nP nF nt : Nat} (hW : WFA G nP nF nt) (h : WFK G nP nF) (e1 : ∀ p, p < nP → G' (6 + 2 * p) = G (6 + 2 * p)) (e2 : ∀ E, E < nF → ∀ w, (w = 6 ∨ (20 ≤ w ∧ w < 36) ∨ (36 + nP ≤ w ∧ w < 60)) → G' (174 + 84 * E + w) = G (174 + 84 * E + w)) (e3 : 0 ≤ (G' 3).toInt) : WFK G' nP nF := by
  refine ⟨fun p q hp hq z => ?_, fun E hE k hk => ?_, fun E hE p h1 h2 => ?_, e3⟩
  · rw [e1 p hp, e1 q hq] at z; exact h.1 p q hp hq z
  · have ho : nOof G' E = nOof G E := by unfold nOof; rw [e2 E hE 6 (Or.inl rfl)]
    have h8 : nOof G E ≤ 8 := by
      obtain ⟨tp, kl, sk, fb, nR, nN, nO, fr, to, -, -, -, -, -, -, ⟨-, b6, c6, -⟩, -⟩ := wfn (hW.2.2.2.2.1 E hE)
      unfold nOof; rw [b6, Int.toNat_natCast]; exact c6
    rw [ho] at hk
    obtain ⟨⟨p, hp, ep⟩, hu⟩ := h.2.1 E hE k hk
    refine ⟨⟨p, hp, by rw [e1 p hp, e2 E hE (20 + 2 * k) (by omega)]; exact ep⟩, fun j hj z => ?_⟩
    rw [ho] at hj
    rw [e2 E hE (20 + 2 * j) (by omega), e2 E hE (20 + 2 * k) (by omega)] at z
    exact hu j hj z
  · rw [e2 E hE (36 + p) (by omega)]; exact h.2.2.1 E hE p h1 h2
theorem g_ask_K {a : Int32 × Int32 × Int32} {G : Nat → Int32} {nP nF nt F p : Nat} (hW : WFA G nP nF nt) (h : WFK G nP nF) (hF : F < nF) (hp : p < nP) (ha : a.1.toInt ≤ 3) : WFK (g_ask a G F p) nP nF := by
  have hP24 := hW.2.1
  refine WFK_congr hW h (fun q hq => g_ask_o ha (by omega) (by omega) (by omega)) (fun E hE w hw => ?_) (by rw [g_ask_o ha (by omega) (by omega) (by omega)]; exact h.2.2.2)
  have : a.1.toInt.toNat ≤ 3 := by omega
  unfold g_ask
  split
  · rw [u1_o (by omega), u1_o (by omega), u1_o (by omega)]
  · rw [u1_o (by omega), u1_o (by omega)]
theorem stI_KW {t : Int32} {nP nF nt nS : Nat} {G : Nat → Int32} (hW : WFA G nP nF nt) (hT : WFT G nF nS) (h : WFK G nP nF) : WFK (stI t nS G).2 nP nF := by
  obtain ⟨-, -, -, e1, e2⟩ := stI_all (t := t) nS G hW hT
  have hP24 := hW.2.1
  exact WFK_congr hW h (fun p hp => e1 _ (by omega)) (fun E hE w hw => e2 E hE w (by omega)) (by rw [e1 3 (by omega)]; exact h.2.2.2)
theorem WFK_head {G : Nat → Int32} {nP nF nt j : Nat} {v : Int32} (hW : WFA G nP nF nt) (h : WFK G nP nF) (hj : j = 4 ∨ j = 5) : WFK (u1 G j v) nP nF := by
  have hP24 := hW.2.1
  exact WFK_congr hW h (fun p hp => u1_o (by omega)) (fun E hE w hw => u1_o (by omega)) (by rw [u1_o (by omega)]; exact h.2.2.2)
theorem WFK_3 {G : Nat → Int32} {nP nF nt : Nat} {v : Int32} (hW : WFA G nP nF nt) (h : WFK G nP nF) (hv : 0 ≤ v.toInt) : WFK (u1 G 3 v) nP nF := by
  have hP24 := hW.2.1
  exact WFK_congr hW h (fun p hp => u1_o (by omega)) (fun E hE w hw => u1_o (by omega)) (by rw [u1_i]; exact hv)
theorem c_De_goOn {d : Nat} {J : Nat → Nat → Int32} {R : Nat → Nat → Option Nat} {L : Nat → Nat → Int64} {sh : Nat → Nat × Nat} {N : Nat} (hS : ShOK sh) (hR : RfOK R) {tK tF tC tS : Nat → Int32} {nt : Nat} {G : Nat → Int32} {nP nF nS : Nat} (hW : WFA G nP nF nt) (hT : WFT G nF nS) (hD : DR tK tF tC tS J R sh nt 0 G nP nF nS) {n : Int32} (hd : 14 ≤ d) : Mt mi_De_goOn d 0 0 [.ref 1, .int n] (J, R, L, sh, N) (fun x h2 => ∃ K, h2 = (K, R, L, sh, N) ∧ x = some (.int (nI (stI (G 3 + n) nS (u1 G 3 (G 3 + n))).1)) ∧ FrE 0 J K ∧ DR tK tF tC tS K R sh nt 0 (stI (G 3 + n) nS (u1 G 3 (G 3 + n))).2 nP nF (nS - (stI (G 3 + n) nS (u1 G 3 (G 3 + n))).1)) := by
  obtain ⟨hPc, hP24, hFc, hF12, hWF, hWP⟩ := id hW
  have hS24 := hT.2.1
  refine Mt.of pn_De (Nat.le_of_ble_eq_true rfl) ?_
  show Run mi_De_goOn d 0 0 0 [(0, .ref 1), (1, .int n)] [] (J, R, L, sh, N) _
  refine r_aload_n (x := some 1) (pc2 := 1) d_De_goOn_0 rfl rfl ?_
  refine r_dup (pc2 := 2) d_De_goOn_1 rfl rfl ?_
  refine q_getI (x := G 3) (pc2 := 5) d_De_goOn_2 rfl k_De_35 (by decide) (sh_1 hS) hD.1.2.2.1 ?_
  refine r_iload_n (pc2 := 6) d_De_goOn_5 rfl rfl ?_
  refine r_iadd (pc2 := 7) d_De_goOn_6 rfl ?_
  refine q_putI (pc2 := 10) d_De_goOn_7 rfl k_De_35 (Or.inl rfl) (sh_1 hS) (Or.inl rfl) (fun I1 hI1 => ?_)
  refine r_aload_n (x := some 1) (pc2 := 11) d_De_goOn_10 rfl rfl ?_
  refine r_aload_n (x := some 1) (pc2 := 12) d_De_goOn_11 rfl rfl ?_
  refine q_getI (x := (G 3) + n) (pc2 := 15) d_De_goOn_12 rfl k_De_35 (by decide) (sh_1 hS) (rd_eq hI1) ?_
  have w1 : WFA (u1 G 3 (G 3 + n)) nP nF nt := WFA_head hW (fun j hj => u1_o (by omega))
  have t1 : WFT (u1 G 3 (G 3 + n)) nF nS := WFT_f hT (by omega)
  have d1 := DR.head hW hT (k := 4) (w := 3) (by omega) hD hI1
  refine r_callv (M2 := mi_De_doSteps) (pc2 := 18) d_De_goOn_15 rfl k_De_86 cm_De_doSteps cv_De_doSteps (sh_1 hS) (by decide) rfl rfl rfl (Nat.le_of_ble_eq_true rfl) (c_De_doSteps_0 (J := I1) hS hR w1 t1 d1 (t := G 3 + n) (d := d - 1) (by omega)) (d2 := d - 1) (by omega) (Nat.le_of_eq (Nat.zero_add _)) (Nat.le_of_eq (Nat.zero_add _)) (fun r2 h2 hq2 => ?_)
  obtain ⟨K2, rfl, rfl, hfK2, hdK2⟩ := hq2
  change Run _ _ _ _ _ _ [.int (nI (stI (G 3 + n) nS (u1 G 3 (G 3 + n))).1)] _ _
  refine Run.ret (some (.int (nI (stI (G 3 + n) nS (u1 G 3 (G 3 + n))).1))) d_De_goOn_18 ⟨_, rfl⟩ ?_
  exact ⟨K2, rfl, rfl, (FrE.rf.put hI1 (by decide)).tr hfK2, hdK2⟩
theorem c_X_pass {d : Nat} {I : Nat → Nat → Int32} {R : Nat → Nat → Option Nat} {L : Nat → Nat → Int64} {sh : Nat → Nat × Nat} {N : Nat} (hS : ShOK sh) (hR : RfOK R) {tK tF tC tS : Nat → Int32} {nt : Nat} (hV : TV tK tF tC nt) (hV2 : TV2 tK tF tC tS nt) (hnt6 : nt ≤ 1000000) {G : Nat → Int32} {nP nF nS : Nat} (hW : WFA G nP nF nt) (hWT : WFT G nF nS) (hKW : WFK G nP nF) {rk : Nat → Nat} (hrk : RK G nF rk) (hD : DR tK tF tC tS I R sh nt 0 G nP nF nS) {n : Int32} (hd : 90 ≤ d) : Mt mi_X_pass d 0 0 [.ref 0, .int n] (I, R, L, sh, N) (XD I R L sh N (o_pass G nS n) (PD tK tF tC tS I R sh nt (g_pass G nS n) nP nF (nS - (stI (G 3 + n) nS (u1 G 3 (G 3 + n))).1))) := by
  obtain ⟨hPc, hP24, hFc, hF12, hWF, hWP⟩ := id hW
  have hS24 := hWT.2.1
  refine Mt.of pn_X (Nat.le_of_ble_eq_true rfl) ?_
  show Run mi_X_pass d 0 0 0 [(0, .ref 0), (1, .int n)] [] (I, R, L, sh, N) _
  refine r_iload_n (pc2 := 1) d_X_pass_0 rfl rfl ?_
  refine q_if_lt (tgt := 11) (A := n.toInt) (pc2 := 4) d_X_pass_1 rfl rfl (rfl) (fun c1 => ?_) (fun c1 => ?_)
  · refine r_aload_n (x := some 0) (pc2 := 12) d_X_pass_11 rfl rfl ?_
    refine r_bipush (v := (-32 : Int32)) (pc2 := 14) d_X_pass_12 rfl (by decide) ?_
    refine q_callv (M2 := mi_X_refuse) (pc2 := 17) d_X_pass_14 rfl k_X_75 cm_X_refuse cv_X_refuse (sh_0 hS) (by decide) rfl rfl rfl (Nat.le_of_ble_eq_true rfl) (c_X_refuse_0 (J := I) hS hR) (d2 := d - 1) (by omega) (Nat.le_of_eq (Nat.zero_add _)) (Nat.le_of_eq (Nat.zero_add _)) ?_
    obtain ⟨I2, hI2⟩ : ∃ x, x = u2 I 744 0 (I 744 0 + nI 1) := ⟨_, rfl⟩
    rw [← hI2]
    refine Run.ret (some (.int ((-32 : Int32)))) d_X_pass_17 ⟨_, rfl⟩ ?_
    first | (exfalso; omega) | exact XD.bad hS 0 (by (unfold o_pass); (try dsimp only); (try simp only [Int.toNat_natCast]); (repeat (first | rw [if_pos (by omega)] | rw [if_neg (by omega)])); (try rfl); (all_goals first | rfl | (congr 2 <;> omega) | ((repeat' split) <;> first | rfl | (exfalso; omega) | (congr 2 <;> omega) | skip))) (by decide) FrXR.rf FrX.rf hI2
  · refine r_iload_n (pc2 := 5) d_X_pass_4 rfl rfl ?_
    refine r_sipush (v := nI 999) (pc2 := 8) d_X_pass_5 rfl (by decide) ?_
    refine q_icmp_le (tgt := 18) (A := n.toInt) (B := (999 : Int)) (pc2 := 11) d_X_pass_8 rfl rfl (rfl) (nI_toInt (by omega)) (fun c3 => ?_) (fun c3 => ?_)
    · refine r_aload_n (x := some 0) (pc2 := 19) d_X_pass_18 rfl rfl ?_
      refine q_getR (x := some 1) (pc2 := 22) d_X_pass_19 rfl k_X_12 rfl (sh_0 hS) (rf_0_0 hR) ?_
      refine r_iload_n (pc2 := 23) d_X_pass_22 rfl rfl ?_
      refine r_callv (M2 := mi_De_goOn) (pc2 := 26) d_X_pass_23 rfl k_X_315 cm_De_goOn cv_De_goOn (sh_1 hS) (by decide) rfl rfl rfl (Nat.le_of_ble_eq_true rfl) (c_De_goOn (J := I) hS hR hW hWT hD (n := n) (d := d - 1) (by omega)) (d2 := d - 1) (by omega) (Nat.le_of_eq (Nat.zero_add _)) (Nat.le_of_eq (Nat.zero_add _)) (fun r2 h2 hq2 => ?_)
      obtain ⟨K4, rfl, rfl, hfK4, hdK4⟩ := hq2
      change Run _ _ _ _ _ _ [.int (nI (stI (G 3 + n) nS (u1 G 3 (G 3 + n))).1)] _ _
      refine Run.ret (some (.int (nI (stI (G 3 + n) nS (u1 G 3 (G 3 + n))).1))) d_X_pass_26 ⟨_, rfl⟩ ?_
      first | (exfalso; omega) | exact XD.val (by (unfold o_pass); (try dsimp only); (try simp only [Int.toNat_natCast]); (repeat (first | rw [if_pos (by omega)] | rw [if_neg (by omega)])); (try rfl); (all_goals first | rfl | (congr 2 <;> omega) | ((repeat' split) <;> first | rfl | (exfalso; omega) | (congr 2 <;> omega) | skip))) ⟨hfK4.d, FrRD.rf, by (unfold g_pass); (try dsimp only); (try simp only [Int.toNat_natCast]); (repeat (first | rw [if_pos (by omega)] | rw [if_neg (by omega)])); exact hdK4⟩
    · refine r_aload_n (x := some 0) (pc2 := 12) d_X_pass_11 rfl rfl ?_
      refine r_bipush (v := (-32 : Int32)) (pc2 := 14) d_X_pass_12 rfl (by decide) ?_
      refine q_callv (M2 := mi_X_refuse) (pc2 := 17) d_X_pass_14 rfl k_X_75 cm_X_refuse cv_X_refuse (sh_0 hS) (by decide) rfl rfl rfl (Nat.le_of_ble_eq_true rfl) (c_X_refuse_0 (J := I) hS hR) (d2 := d - 1) (by omega) (Nat.le_of_eq (Nat.zero_add _)) (Nat.le_of_eq (Nat.zero_add _)) ?_
      obtain ⟨I5, hI5⟩ : ∃ x, x = u2 I 744 0 (I 744 0 + nI 1) := ⟨_, rfl⟩
      rw [← hI5]
      refine Run.ret (some (.int ((-32 : Int32)))) d_X_pass_17 ⟨_, rfl⟩ ?_
      first | (exfalso; omega) | exact XD.bad hS 0 (by (unfold o_pass); (try dsimp only); (try simp only [Int.toNat_natCast]); (repeat (first | rw [if_pos (by omega)] | rw [if_neg (by omega)])); (try rfl); (all_goals first | rfl | (congr 2 <;> omega) | ((repeat' split) <;> first | rfl | (exfalso; omega) | (congr 2 <;> omega) | skip))) (by decide) FrXR.rf FrX.rf hI5
theorem l_X_days {d : Nat} {I : Nat → Nat → Int32} {R : Nat → Nat → Option Nat} {L : Nat → Nat → Int64} {sh : Nat → Nat × Nat} {N : Nat} (hS : ShOK sh) (hR : RfOK R) {tK tF tC tS : Nat → Int32} {nt : Nat} (hV : TV tK tF tC nt) (hV2 : TV2 tK tF tC tS nt) (hnt6 : nt ≤ 1000000) {nP nF : Nat} {rk : Nat → Nat} (hP0 : 0 < nP) (hF0 : 0 < nF) {n tot : Nat} {GE : Nat → Int32} {Q : Option Value → HS → Prop} (hq : ∀ K, FrD sh I K → DR tK tF tC tS K R sh nt 0 GE nP nF (GE 2).toInt.toNat → Q (some (.int (nI tot))) (K, R, L, sh, N)) (hn60 : n ≤ 60) (hd : 70 ≤ d) : ∀ (n_ : Nat) (k : Nat) (on : Nat) (G : Nat → Int32) (J : Nat → Nat → Int32) (nS : Nat), n - k = n_ → (FrD sh I J) → (DR tK tF tC tS J R sh nt 0 G nP nF nS) → (WFA G nP nF nt) → (RK G nF rk) → (WFT G nF nS) → (WFK G nP nF) → (on + (daysG lcg dr (TRK tK tF tC tS) nP nF (n - k) G).1 = tot) → ((daysG lcg dr (TRK tK tF tC tS) nP nF (n - k) G).2 = GE) → ((G 3).toInt ≤ 2000000 + 3 * (k : Int)) → (k ≤ n) → Run mi_X_days d 0 0 52 [(0, .ref 0), (1, .int (nI n)), (2, .int (nI on)), (3, .int (nI k))] [] (J, R, L, sh, N) Q := by
  intro n_
  induction n_ using Nat.strongRecOn with | ind n_ ih_ => ?_
  intro k on G J nS hn_ v0_ v1_ v2_ v3_ v4_ v5_ v6_ v7_ v8_ v9_
  have hP24 := v2_.2.1
  have hF12 := v2_.2.2.2.1
  refine r_iload_n (pc2 := 53) d_X_days_52 rfl rfl ?_
  refine r_iload_n (pc2 := 54) d_X_days_53 rfl rfl ?_
  refine q_icmp_ge (tgt := 128) (A := ((k : Nat) : Int)) (B := ((n : Nat) : Int)) (pc2 := 57) d_X_days_54 rfl rfl (nI_toInt (by omega)) (nI_toInt (by omega)) (fun c1 => ?_) (fun c1 => ?_)
  · refine r_iload_n (pc2 := 129) d_X_days_128 rfl rfl ?_
    refine Run.ret (some (.int (nI on))) d_X_days_129 ⟨_, rfl⟩ ?_
    rw [show n - k = 0 by omega] at v6_ v7_
    rw [show on = tot from v6_]
    have v7 : G = GE := v7_
    subst v7
    exact hq J v0_ (by rw [v4_.1, nI_toInt (by have := v4_.2.1; omega), Int.toNat_natCast]; exact v1_)
  · obtain ⟨m, hm⟩ : ∃ m, n - k = m + 1 := ⟨n - k - 1, by omega⟩
    rw [hm] at v6_ v7_
    rw [daysG_s] at v6_ v7_
    dsimp only at v6_ v7_
    have e5 : J 1 5 = G 5 := v1_.1.2.2.2.1
    obtain ⟨z1, hz1⟩ : ∃ x, x = lcg (G 5) := ⟨_, rfl⟩
    obtain ⟨z2, hz2⟩ : ∃ x, x = lcg z1 := ⟨_, rfl⟩
    obtain ⟨f, hf⟩ : ∃ x, x = dr z1 % nF := ⟨_, rfl⟩
    obtain ⟨p, hp⟩ : ∃ x, x = dr z2 % nP := ⟨_, rfl⟩
    have hfl : f < nF := by rw [hf]; exact Nat.mod_lt _ hF0
    have hpl : p < nP := by rw [hp]; exact Nat.mod_lt _ hP0
    refine r_aload_n (x := some 0) (pc2 := 58) d_X_days_57 rfl rfl ?_
    refine q_getR (x := some 1) (pc2 := 61) d_X_days_58 rfl k_X_12 rfl (sh_0 hS) (rf_0_0 hR) ?_
    refine r_aload_n (x := some 0) (pc2 := 62) d_X_days_61 rfl rfl ?_
    refine q_getR (x := some 1) (pc2 := 65) d_X_days_62 rfl k_X_12 rfl (sh_0 hS) (rf_0_0 hR) ?_
    refine q_getI (x := nI nF) (pc2 := 68) d_X_days_65 rfl k_X_208 (by decide) (sh_1 hS) v1_.1.2.1 ?_
    refine q_callv (M2 := mi_De_draw) (pc2 := 71) d_X_days_68 rfl k_X_398 cm_De_draw cv_De_draw (sh_1 hS) (by decide) rfl rfl rfl (Nat.le_of_ble_eq_true rfl) (c_De_draw (J := J) hS hR (n := nF) (by omega) (by omega)) (d2 := d - 1) (by omega) (Nat.le_of_eq (Nat.zero_add _)) (Nat.le_of_eq (Nat.zero_add _)) ?_
    obtain ⟨K2, hK2⟩ : ∃ x, x = u2 J 1 5 (lcg (J 1 5)) := ⟨_, rfl⟩
    rw [← hK2]
    rw [e5, ← hz1] at hK2
    refine q_top (y := nI f) (by rw [e5, ← hz1, ← hf]) ?_
    have d1 := DR.head v2_ v4_ (k := 5) (w := 5) (by omega) v1_ hK2
    have w1 : WFA (u1 G 5 z1) nP nF nt := WFA_head v2_ (fun j hj => u1_o (by omega))
    have t1 : WFT (u1 G 5 z1) nF nS := WFT_f v4_ (by omega)
    have k1 : WFK (u1 G 5 z1) nP nF := WFK_head v2_ v5_ (Or.inr rfl)
    have r1 : RK (u1 G 5 z1) nF rk := RK_congr v2_ (fun F hF w hw => u1_o (by omega)) v3_
    have e6 : K2 1 5 = z1 := by rw [hK2]; exact rd_eq rfl
    refine r_istore (pc2 := 73) d_X_days_71 rfl (Nat.le_of_ble_eq_true rfl) ?_
    refine r_aload_n (x := some 0) (pc2 := 74) d_X_days_73 rfl rfl ?_
    refine q_getR (x := some 1) (pc2 := 77) d_X_days_74 rfl k_X_12 rfl (sh_0 hS) (rf_0_0 hR) ?_
    refine r_aload_n (x := some 0) (pc2 := 78) d_X_days_77 rfl rfl ?_
    refine q_getR (x := some 1) (pc2 := 81) d_X_days_78 rfl k_X_12 rfl (sh_0 hS) (rf_0_0 hR) ?_
    refine q_getR (x := some 2) (pc2 := 84) d_X_days_81 rfl k_X_179 rfl (sh_1 hS) (rf_1_0 hR) ?_
    refine q_getI (x := nI nP) (pc2 := 87) d_X_days_84 rfl k_X_189 (by decide) (sh_2 hS) d1.1.1 ?_
    refine q_callv (M2 := mi_De_draw) (pc2 := 90) d_X_days_87 rfl k_X_398 cm_De_draw cv_De_draw (sh_1 hS) (by decide) rfl rfl rfl (Nat.le_of_ble_eq_true rfl) (c_De_draw (J := K2) hS hR (n := nP) (by omega) (by omega)) (d2 := d - 1) (by omega) (Nat.le_of_eq (Nat.zero_add _)) (Nat.le_of_eq (Nat.zero_add _)) ?_
    obtain ⟨K3, hK3⟩ : ∃ x, x = u2 K2 1 5 (lcg (K2 1 5)) := ⟨_, rfl⟩
    rw [← hK3]
    rw [e6, ← hz2] at hK3
    refine q_top (y := nI p) (by rw [e6, ← hz2, ← hp]) ?_
    have d2 := DR.head w1 t1 (k := 5) (w := 5) (by omega) d1 hK3
    have w2 : WFA (u1 (u1 G 5 z1) 5 z2) nP nF nt := WFA_head w1 (fun j hj => u1_o (by omega))
    have t2 : WFT (u1 (u1 G 5 z1) 5 z2) nF nS := WFT_f t1 (by omega)
    have k2 : WFK (u1 (u1 G 5 z1) 5 z2) nP nF := WFK_head w1 k1 (Or.inr rfl)
    have r2 : RK (u1 (u1 G 5 z1) 5 z2) nF rk := RK_congr w1 (fun F hF w hw => u1_o (by omega)) r1
    have fr2 : FrD sh I K3 := (v0_.put hK2 (Or.inl (by decide))).put hK3 (Or.inl (by decide))
    refine r_istore (pc2 := 92) d_X_days_90 rfl (Nat.le_of_ble_eq_true rfl) ?_
    refine r_aload_n (x := some 0) (pc2 := 93) d_X_days_92 rfl rfl ?_
    refine r_iload (pc2 := 95) d_X_days_93 rfl rfl ?_
    refine r_iload (pc2 := 97) d_X_days_95 rfl rfl ?_
    refine r_callv (M2 := mi_X_askInTruth) (pc2 := 100) d_X_days_97 rfl k_X_318 cm_X_askInTruth cv_X_askInTruth (sh_0 hS) (by decide) rfl rfl rfl (Nat.le_of_ble_eq_true rfl) (c_X_askInTruth (I := K3) hS hR hV hV2 hnt6 w2 t2 k2 r2 d2 (p := p) hpl (F := f) hfl (d := d - 1) (by omega)) (d2 := d - 1) (by omega) (Nat.le_of_eq (Nat.zero_add _)) (Nat.le_of_eq (Nat.zero_add _)) (fun r2 h2 hq2 => ?_)
    obtain ⟨K4, rfl, rfl, fr3, d3⟩ := hq2
    change Run _ _ _ _ _ _ [.int ((AN (TRK tK tF tC tS) (u1 (u1 G 5 z1) 5 z2) p f).1)] _ _
    obtain ⟨han, -⟩ := AN_rng (tr := (TRK tK tF tC tS)) w2 r2 hpl hfl
    obtain ⟨A, hA⟩ : ∃ x, x = AN (TRK tK tF tC tS) (u1 (u1 G 5 z1) 5 z2) p f := ⟨_, rfl⟩
    rw [← hA] at han d3
    rw [← hA]
    have w3 := g_ask_W (a := A) w2 hfl hpl han
    have k3 := g_ask_K (a := A) w2 k2 hfl hpl han.2
    have t3 : WFT (g_ask A (u1 (u1 G 5 z1) 5 z2) f p) nF nS := WFT_congr t2 (fun j hj => g_ask_o han.2 (by omega) (by omega) (by omega))
    have r3 : RK (g_ask A (u1 (u1 G 5 z1) 5 z2) f p) nF rk := RK_congr w2 (fun F hF w hw => by
      by_cases e : F = f
      · exact g_ask_o han.2 (by omega) (by omega) (by omega)
      · exact g_ask_o han.2 (by omega) (by omega) (by omega)) r2
    have e33 : g_ask A (u1 (u1 G 5 z1) 5 z2) f p 3 = G 3 := by rw [g_ask_o han.2 (by omega) (by omega) (by omega), u1_o (by decide), u1_o (by decide)]
    obtain ⟨G3, hG3⟩ : ∃ x, x = g_ask A (u1 (u1 G 5 z1) 5 z2) f p := ⟨_, rfl⟩
    rw [← hG3] at w3 k3 t3 r3 d3 e33
    have e7 : K4 1 5 = G3 5 := d3.1.2.2.2.1
    obtain ⟨z3, hz3⟩ : ∃ x, x = lcg (G3 5) := ⟨_, rfl⟩
    obtain ⟨n4, hn4⟩ : ∃ x, x = dr z3 % 4 := ⟨_, rfl⟩
    have hnl : n4 < 4 := by rw [hn4]; exact Nat.mod_lt _ (by decide)
    have hda : dayA lcg dr (TRK tK tF tC tS) nP nF G = A := by rw [hA, hf, hp, hz2, hz1]; rfl
    have hdd : day3 lcg dr (TRK tK tF tC tS) nP nF G = u1 (u1 G3 5 z3) 3 (G3 3 + nI n4) := by rw [hn4, hz3, hG3, ← hda, hf, hp, hz2, hz1]; rfl
    rw [hda] at v6_
    refine q_if_eq (tgt := 106) (A := A.1.toInt) (pc2 := 103) d_X_days_100 rfl rfl (rfl) (fun c5 => ?_) (fun c5 => ?_)
    · refine r_aload_n (x := some 0) (pc2 := 107) d_X_days_106 rfl rfl ?_
      refine q_getR (x := some 1) (pc2 := 110) d_X_days_107 rfl k_X_12 rfl (sh_0 hS) (rf_0_0 hR) ?_
      refine r_aload_n (x := some 0) (pc2 := 111) d_X_days_110 rfl rfl ?_
      refine q_getR (x := some 1) (pc2 := 114) d_X_days_111 rfl k_X_12 rfl (sh_0 hS) (rf_0_0 hR) ?_
      refine r_iconst (v := nI 4) (pc2 := 115) d_X_days_114 rfl (by decide) ?_
      refine q_callv (M2 := mi_De_draw) (pc2 := 118) d_X_days_115 rfl k_X_398 cm_De_draw cv_De_draw (sh_1 hS) (by decide) rfl rfl rfl (Nat.le_of_ble_eq_true rfl) (c_De_draw (J := K4) hS hR (n := 4) (by omega) (by omega)) (d2 := d - 1) (by omega) (Nat.le_of_eq (Nat.zero_add _)) (Nat.le_of_eq (Nat.zero_add _)) ?_
      obtain ⟨K6, hK6⟩ : ∃ x, x = u2 K4 1 5 (lcg (K4 1 5)) := ⟨_, rfl⟩
      rw [← hK6]
      rw [e7, ← hz3] at hK6
      refine q_top (y := nI n4) (by rw [e7, ← hz3, ← hn4]) ?_
      have d4 := DR.head w3 t3 (k := 5) (w := 5) (by omega) d3 hK6
      have w4 : WFA (u1 G3 5 z3) nP nF nt := WFA_head w3 (fun j hj => u1_o (by omega))
      have t4 : WFT (u1 G3 5 z3) nF nS := WFT_f t3 (by omega)
      have fr4 := (fr2.tr fr3).put hK6 (Or.inl (by decide))
      refine r_callv (M2 := mi_De_goOn) (pc2 := 121) d_X_days_118 rfl k_X_315 cm_De_goOn cv_De_goOn (sh_1 hS) (by decide) rfl rfl rfl (Nat.le_of_ble_eq_true rfl) (c_De_goOn (J := K6) hS hR w4 t4 d4 (n := nI n4) (d := d - 1) (by omega)) (d2 := d - 1) (by omega) (Nat.le_of_eq (Nat.zero_add _)) (Nat.le_of_eq (Nat.zero_add _)) (fun r2 h2 hq2 => ?_)
      obtain ⟨K7, rfl, rfl, fr5, d5⟩ := hq2
      change Run _ _ _ _ _ _ [.int (nI (stI (u1 G3 5 z3 3 + nI n4) nS (u1 (u1 G3 5 z3) 3 (u1 G3 5 z3 3 + nI n4))).1)] _ _
      refine r_pop (pc2 := 122) d_X_days_121 rfl rfl ?_
      refine q_iinc (b := 1) (pc2 := 125) d_X_days_122 rfl rfl (by decide) (Nat.le_of_ble_eq_true rfl) ?_
      refine r_goto (tgt := 52) d_X_days_125 rfl ?_
      rw [u1_o (show 3 ≠ 5 by decide)] at d5
      obtain ⟨D, hD⟩ : ∃ x, x = u1 (u1 G3 5 z3) 3 (G3 3 + nI n4) := ⟨_, rfl⟩
      have hD3 : D 3 = G3 3 + nI n4 := by rw [hD, u1_i]
      rw [← hD] at d5 hdd
      rw [← hD3] at d5
      have g3v : (D 3).toInt = (G 3).toInt + (n4 : Int) := by rw [hD3]; exact toInt_add_of (by rw [e33]) (nI_toInt (by omega)) (by have := v5_.2.2.2; omega) (by omega)
      have w5 : WFA D nP nF nt := by rw [hD]; exact WFA_head w4 (fun j hj => u1_o (by omega))
      have t5 : WFT D nF nS := by rw [hD]; exact WFT_f t4 (by omega)
      have r5 : RK D nF rk := by rw [hD]; exact RK_congr w4 (fun F hF w hw => u1_o (by omega)) (RK_congr w3 (fun F hF w hw => u1_o (by omega)) r3)
      have k5 : WFK D nP nF := by rw [hD]; exact WFK_3 w4 (WFK_head w3 k3 (Or.inr rfl)) (by rw [← hD3, g3v]; have := v5_.2.2.2; omega)
      obtain ⟨q1, q2, q3, q4⟩ := dayS_ok w5 r5 t5
      have hdg : dayG lcg dr (TRK tK tF tC tS) nP nF G = (stI (D 3) nS D).2 := by rw [show dayG lcg dr (TRK tK tF tC tS) nP nF G = dayS (day3 lcg dr (TRK tK tF tC tS) nP nF G) from rfl, hdd]; exact q4
      rw [hdg] at v6_ v7_
      rw [q4] at q1 q2 q3
      have k6 := stI_KW (t := D 3) w5 t5 k5
      have g6 := (stI_all (t := D 3) nS D w5 t5).2.2.2.1 3 (by omega)
      rw [if_neg (fun z => z c5)] at v6_
      refine Run.sub (l2 := [(0, .ref 0), (1, .int (nI n)), (2, .int (nI on)), (3, .int (nI (k + 1)))]) ⟨rfl, rfl, rfl, rfl, trivial⟩ ?_
      exact ih_ (n - (k + 1)) (by omega) (k + 1) on ((stI (D 3) nS D).2) K7 (nS - (stI (D 3) nS D).1) rfl (fr4.tr fr5.d) (d5) (q1) (q2) (q3) (k6) (by rw [show n - (k + 1) = m by omega]; omega) (by rw [show n - (k + 1) = m by omega]; exact v7_) (by rw [g6, g3v]; omega) (by omega)
    · refine q_iinc (b := 1) (pc2 := 106) d_X_days_103 rfl rfl (by decide) (Nat.le_of_ble_eq_true rfl) ?_
      refine r_aload_n (x := some 0) (pc2 := 107) d_X_days_106 rfl rfl ?_
      refine q_getR (x := some 1) (pc2 := 110) d_X_days_107 rfl k_X_12 rfl (sh_0 hS) (rf_0_0 hR) ?_
      refine r_aload_n (x := some 0) (pc2 := 111) d_X_days_110 rfl rfl ?_
      refine q_getR (x := some 1) (pc2 := 114) d_X_days_111 rfl k_X_12 rfl (sh_0 hS) (rf_0_0 hR) ?_
      refine r_iconst (v := nI 4) (pc2 := 115) d_X_days_114 rfl (by decide) ?_
      refine q_callv (M2 := mi_De_draw) (pc2 := 118) d_X_days_115 rfl k_X_398 cm_De_draw cv_De_draw (sh_1 hS) (by decide) rfl rfl rfl (Nat.le_of_ble_eq_true rfl) (c_De_draw (J := K4) hS hR (n := 4) (by omega) (by omega)) (d2 := d - 1) (by omega) (Nat.le_of_eq (Nat.zero_add _)) (Nat.le_of_eq (Nat.zero_add _)) ?_
      obtain ⟨K8, hK8⟩ : ∃ x, x = u2 K4 1 5 (lcg (K4 1 5)) := ⟨_, rfl⟩
      rw [← hK8]
      rw [e7, ← hz3] at hK8
      refine q_top (y := nI n4) (by rw [e7, ← hz3, ← hn4]) ?_
      have d4 := DR.head w3 t3 (k := 5) (w := 5) (by omega) d3 hK8
      have w4 : WFA (u1 G3 5 z3) nP nF nt := WFA_head w3 (fun j hj => u1_o (by omega))
      have t4 : WFT (u1 G3 5 z3) nF nS := WFT_f t3 (by omega)
      have fr4 := (fr2.tr fr3).put hK8 (Or.inl (by decide))
      refine r_callv (M2 := mi_De_goOn) (pc2 := 121) d_X_days_118 rfl k_X_315 cm_De_goOn cv_De_goOn (sh_1 hS) (by decide) rfl rfl rfl (Nat.le_of_ble_eq_true rfl) (c_De_goOn (J := K8) hS hR w4 t4 d4 (n := nI n4) (d := d - 1) (by omega)) (d2 := d - 1) (by omega) (Nat.le_of_eq (Nat.zero_add _)) (Nat.le_of_eq (Nat.zero_add _)) (fun r2 h2 hq2 => ?_)
      obtain ⟨K9, rfl, rfl, fr5, d5⟩ := hq2
      change Run _ _ _ _ _ _ [.int (nI (stI (u1 G3 5 z3 3 + nI n4) nS (u1 (u1 G3 5 z3) 3 (u1 G3 5 z3 3 + nI n4))).1)] _ _
      refine r_pop (pc2 := 122) d_X_days_121 rfl rfl ?_
      refine q_iinc (b := 1) (pc2 := 125) d_X_days_122 rfl rfl (by decide) (Nat.le_of_ble_eq_true rfl) ?_
      refine r_goto (tgt := 52) d_X_days_125 rfl ?_
      rw [u1_o (show 3 ≠ 5 by decide)] at d5
      obtain ⟨D, hD⟩ : ∃ x, x = u1 (u1 G3 5 z3) 3 (G3 3 + nI n4) := ⟨_, rfl⟩
      have hD3 : D 3 = G3 3 + nI n4 := by rw [hD, u1_i]
      rw [← hD] at d5 hdd
      rw [← hD3] at d5
      have g3v : (D 3).toInt = (G 3).toInt + (n4 : Int) := by rw [hD3]; exact toInt_add_of (by rw [e33]) (nI_toInt (by omega)) (by have := v5_.2.2.2; omega) (by omega)
      have w5 : WFA D nP nF nt := by rw [hD]; exact WFA_head w4 (fun j hj => u1_o (by omega))
      have t5 : WFT D nF nS := by rw [hD]; exact WFT_f t4 (by omega)
      have r5 : RK D nF rk := by rw [hD]; exact RK_congr w4 (fun F hF w hw => u1_o (by omega)) (RK_congr w3 (fun F hF w hw => u1_o (by omega)) r3)
      have k5 : WFK D nP nF := by rw [hD]; exact WFK_3 w4 (WFK_head w3 k3 (Or.inr rfl)) (by rw [← hD3, g3v]; have := v5_.2.2.2; omega)
      obtain ⟨q1, q2, q3, q4⟩ := dayS_ok w5 r5 t5
      have hdg : dayG lcg dr (TRK tK tF tC tS) nP nF G = (stI (D 3) nS D).2 := by rw [show dayG lcg dr (TRK tK tF tC tS) nP nF G = dayS (day3 lcg dr (TRK tK tF tC tS) nP nF G) from rfl, hdd]; exact q4
      rw [hdg] at v6_ v7_
      rw [q4] at q1 q2 q3
      have k6 := stI_KW (t := D 3) w5 t5 k5
      have g6 := (stI_all (t := D 3) nS D w5 t5).2.2.2.1 3 (by omega)
      rw [if_pos c5] at v6_
      refine Run.sub (l2 := [(0, .ref 0), (1, .int (nI n)), (2, .int (nI (on + 1))), (3, .int (nI (k + 1)))]) ⟨rfl, rfl, rfl, rfl, trivial⟩ ?_
      exact ih_ (n - (k + 1)) (by omega) (k + 1) (on + 1) ((stI (D 3) nS D).2) K9 (nS - (stI (D 3) nS D).1) rfl (fr4.tr fr5.d) (d5) (q1) (q2) (q3) (k6) (by rw [show n - (k + 1) = m by omega]; omega) (by rw [show n - (k + 1) = m by omega]; exact v7_) (by rw [g6, g3v]; omega) (by omega)
theorem c_X_days {d : Nat} {I : Nat → Nat → Int32} {R : Nat → Nat → Option Nat} {L : Nat → Nat → Int64} {sh : Nat → Nat × Nat} {N : Nat} (hS : ShOK sh) (hR : RfOK R) {tK tF tC tS : Nat → Int32} {nt : Nat} (hV : TV tK tF tC nt) (hV2 : TV2 tK tF tC tS nt) (hnt6 : nt ≤ 1000000) {G : Nat → Int32} {nP nF nS : Nat} (hW : WFA G nP nF nt) (hWT : WFT G nF nS) (hKW : WFK G nP nF) {rk : Nat → Nat} (hrk : RK G nF rk) (hD : DR tK tF tC tS I R sh nt 0 G nP nF nS) {n : Int32} (hN3 : (G 3).toInt ≤ 2000000) (hd : 90 ≤ d) : Mt mi_X_days d 0 0 [.ref 0, .int n] (I, R, L, sh, N) (XD I R L sh N (o_days (TRK tK tF tC tS) G nP nF n) (PD tK tF tC tS I R sh nt (g_days (TRK tK tF tC tS) G nP nF n) nP nF (g_days (TRK tK tF tC tS) G nP nF n 2).toInt.toNat)) := by
  obtain ⟨hPc, hP24, hFc, hF12, hWF, hWP⟩ := id hW
  have hS24 := hWT.2.1
  refine Mt.of pn_X (Nat.le_of_ble_eq_true rfl) ?_
  show Run mi_X_days d 0 0 0 [(0, .ref 0), (1, .int n)] [] (I, R, L, sh, N) _
  refine r_iload_n (pc2 := 1) d_X_days_0 rfl rfl ?_
  refine r_iconst (v := nI 1) (pc2 := 2) d_X_days_1 rfl (by decide) ?_
  refine q_icmp_lt (tgt := 11) (A := n.toInt) (B := (1 : Int)) (pc2 := 5) d_X_days_2 rfl rfl (rfl) (nI_toInt (by omega)) (fun c1 => ?_) (fun c1 => ?_)
  · refine r_aload_n (x := some 0) (pc2 := 12) d_X_days_11 rfl rfl ?_
    refine r_bipush (v := (-32 : Int32)) (pc2 := 14) d_X_days_12 rfl (by decide) ?_
    refine q_callv (M2 := mi_X_refuse) (pc2 := 17) d_X_days_14 rfl k_X_75 cm_X_refuse cv_X_refuse (sh_0 hS) (by decide) rfl rfl rfl (Nat.le_of_ble_eq_true rfl) (c_X_refuse_0 (J := I) hS hR) (d2 := d - 1) (by omega) (Nat.le_of_eq (Nat.zero_add _)) (Nat.le_of_eq (Nat.zero_add _)) ?_
    obtain ⟨I2, hI2⟩ : ∃ x, x = u2 I 744 0 (I 744 0 + nI 1) := ⟨_, rfl⟩
    rw [← hI2]
    refine Run.ret (some (.int ((-32 : Int32)))) d_X_days_17 ⟨_, rfl⟩ ?_
    first | (exfalso; omega) | exact XD.bad hS 0 (by (unfold o_days); (try dsimp only); (try simp only [Int.toNat_natCast]); (repeat (first | rw [if_pos (by omega)] | rw [if_neg (by omega)])); (try rfl); (all_goals first | rfl | (congr 2 <;> omega) | ((repeat' split) <;> first | rfl | (exfalso; omega) | (congr 2 <;> omega) | skip))) (by decide) FrXR.rf FrX.rf hI2
  · refine r_iload_n (pc2 := 6) d_X_days_5 rfl rfl ?_
    refine r_bipush (v := nI 60) (pc2 := 8) d_X_days_6 rfl (by decide) ?_
    refine q_icmp_le (tgt := 18) (A := n.toInt) (B := (60 : Int)) (pc2 := 11) d_X_days_8 rfl rfl (rfl) (nI_toInt (by omega)) (fun c3 => ?_) (fun c3 => ?_)
    · obtain ⟨nN, hnN, rfl, enN⟩ : ∃ a : Nat, (1 ≤ a ∧ a ≤ 60) ∧ n = nI a ∧ n.toInt = (a : Int) := ⟨n.toInt.toNat, by omega, eq_nI (by omega), by omega⟩
      refine r_aload_n (x := some 0) (pc2 := 19) d_X_days_18 rfl rfl ?_
      refine q_getR (x := some 1) (pc2 := 22) d_X_days_19 rfl k_X_12 rfl (sh_0 hS) (rf_0_0 hR) ?_
      refine q_getI (x := nI nF) (pc2 := 25) d_X_days_22 rfl k_X_208 (by decide) (sh_1 hS) hD.1.2.1 ?_
      refine q_if_eq (tgt := 41) (A := ((nF : Nat) : Int)) (pc2 := 28) d_X_days_25 rfl rfl (nI_toInt (by omega)) (fun c4 => ?_) (fun c4 => ?_)
      · refine r_aload_n (x := some 0) (pc2 := 42) d_X_days_41 rfl rfl ?_
        refine r_bipush (v := (-35 : Int32)) (pc2 := 44) d_X_days_42 rfl (by decide) ?_
        refine q_callv (M2 := mi_X_refuse) (pc2 := 47) d_X_days_44 rfl k_X_75 cm_X_refuse cv_X_refuse (sh_0 hS) (by decide) rfl rfl rfl (Nat.le_of_ble_eq_true rfl) (c_X_refuse_3 (J := I) hS hR) (d2 := d - 1) (by omega) (Nat.le_of_eq (Nat.zero_add _)) (Nat.le_of_eq (Nat.zero_add _)) ?_
        obtain ⟨I5, hI5⟩ : ∃ x, x = u2 I 744 3 (I 744 3 + nI 1) := ⟨_, rfl⟩
        rw [← hI5]
        refine Run.ret (some (.int ((-35 : Int32)))) d_X_days_47 ⟨_, rfl⟩ ?_
        first | (exfalso; omega) | exact XD.bad hS 3 (by (try simp only [enN, Int.toNat_natCast] at c1 c3 c4); (unfold o_days); (try dsimp only); (try simp only [enN, Int.toNat_natCast]); (repeat (first | rw [if_pos (by omega)] | rw [if_neg (by omega)])); (try rfl); (all_goals first | rfl | (congr 2 <;> omega) | ((repeat' split) <;> first | rfl | (exfalso; omega) | (congr 2 <;> omega) | skip))) (by decide) FrXR.rf FrX.rf hI5
      · refine r_aload_n (x := some 0) (pc2 := 29) d_X_days_28 rfl rfl ?_
        refine q_getR (x := some 1) (pc2 := 32) d_X_days_29 rfl k_X_12 rfl (sh_0 hS) (rf_0_0 hR) ?_
        refine q_getR (x := some 2) (pc2 := 35) d_X_days_32 rfl k_X_179 rfl (sh_1 hS) (rf_1_0 hR) ?_
        refine q_getI (x := nI nP) (pc2 := 38) d_X_days_35 rfl k_X_189 (by decide) (sh_2 hS) hD.1.1 ?_
        refine q_if_ne (tgt := 48) (A := ((nP : Nat) : Int)) (pc2 := 41) d_X_days_38 rfl rfl (nI_toInt (by omega)) (fun c6 => ?_) (fun c6 => ?_)
        · refine r_iconst (v := nI 0) (pc2 := 49) d_X_days_48 rfl (by decide) ?_
          refine r_istore_n (pc2 := 50) d_X_days_49 rfl rfl (Nat.le_of_ble_eq_true rfl) ?_
          refine r_iconst (v := nI 0) (pc2 := 51) d_X_days_50 rfl (by decide) ?_
          refine r_istore_n (pc2 := 52) d_X_days_51 rfl rfl (Nat.le_of_ble_eq_true rfl) ?_
          refine Run.sub (l2 := [(0, .ref 0), (1, .int (nI nN)), (2, .int (nI 0)), (3, .int (nI 0))]) ⟨rfl, rfl, rfl, rfl, trivial⟩ ?_
          exact l_X_days hS hR hV hV2 hnt6 (n := nN) (by omega) (by omega) (fun K h1 h2 => XD.val (by (try simp only [enN, Int.toNat_natCast] at c1 c3 c4 c6); (unfold o_days); (try dsimp only); (try simp only [enN, Int.toNat_natCast]); (repeat (first | rw [if_pos (by omega)] | rw [if_neg (by omega)])); (try rfl); (all_goals first | rfl | (congr 2 <;> omega) | ((repeat' split) <;> first | rfl | (exfalso; omega) | (congr 2 <;> omega) | skip))) ⟨h1, FrRD.rf, by (try simp only [enN, Int.toNat_natCast] at c1 c3 c4 c6); (unfold g_days); (try dsimp only); (try simp only [enN, Int.toNat_natCast]); (repeat (first | rw [if_pos (by omega)] | rw [if_neg (by omega)])); exact h2⟩) (by omega) (by omega) _ 0 0 G I nS rfl FrD.rf hD hW hrk hWT hKW (by rw [Nat.sub_zero, Nat.zero_add]) (by rw [Nat.sub_zero]) (by omega) (Nat.zero_le _)
        · refine r_aload_n (x := some 0) (pc2 := 42) d_X_days_41 rfl rfl ?_
          refine r_bipush (v := (-35 : Int32)) (pc2 := 44) d_X_days_42 rfl (by decide) ?_
          refine q_callv (M2 := mi_X_refuse) (pc2 := 47) d_X_days_44 rfl k_X_75 cm_X_refuse cv_X_refuse (sh_0 hS) (by decide) rfl rfl rfl (Nat.le_of_ble_eq_true rfl) (c_X_refuse_3 (J := I) hS hR) (d2 := d - 1) (by omega) (Nat.le_of_eq (Nat.zero_add _)) (Nat.le_of_eq (Nat.zero_add _)) ?_
          obtain ⟨I7, hI7⟩ : ∃ x, x = u2 I 744 3 (I 744 3 + nI 1) := ⟨_, rfl⟩
          rw [← hI7]
          refine Run.ret (some (.int ((-35 : Int32)))) d_X_days_47 ⟨_, rfl⟩ ?_
          first | (exfalso; omega) | exact XD.bad hS 3 (by (try simp only [enN, Int.toNat_natCast] at c1 c3 c4 c6); (unfold o_days); (try dsimp only); (try simp only [enN, Int.toNat_natCast]); (repeat (first | rw [if_pos (by omega)] | rw [if_neg (by omega)])); (try rfl); (all_goals first | rfl | (congr 2 <;> omega) | ((repeat' split) <;> first | rfl | (exfalso; omega) | (congr 2 <;> omega) | skip))) (by decide) FrXR.rf FrX.rf hI7
    · refine r_aload_n (x := some 0) (pc2 := 12) d_X_days_11 rfl rfl ?_
      refine r_bipush (v := (-32 : Int32)) (pc2 := 14) d_X_days_12 rfl (by decide) ?_
      refine q_callv (M2 := mi_X_refuse) (pc2 := 17) d_X_days_14 rfl k_X_75 cm_X_refuse cv_X_refuse (sh_0 hS) (by decide) rfl rfl rfl (Nat.le_of_ble_eq_true rfl) (c_X_refuse_0 (J := I) hS hR) (d2 := d - 1) (by omega) (Nat.le_of_eq (Nat.zero_add _)) (Nat.le_of_eq (Nat.zero_add _)) ?_
      obtain ⟨I8, hI8⟩ : ∃ x, x = u2 I 744 0 (I 744 0 + nI 1) := ⟨_, rfl⟩
      rw [← hI8]
      refine Run.ret (some (.int ((-32 : Int32)))) d_X_days_17 ⟨_, rfl⟩ ?_
      first | (exfalso; omega) | exact XD.bad hS 0 (by (unfold o_days); (try dsimp only); (try simp only [Int.toNat_natCast]); (repeat (first | rw [if_pos (by omega)] | rw [if_neg (by omega)])); (try rfl); (all_goals first | rfl | (congr 2 <;> omega) | ((repeat' split) <;> first | rfl | (exfalso; omega) | (congr 2 <;> omega) | skip))) (by decide) FrXR.rf FrX.rf hI8
