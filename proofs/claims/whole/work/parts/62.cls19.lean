/-! THE CLASS: drop -/
theorem FR.drop {K F C S : Nat → Int32} {I J1 J : Nat → Nat → Int32} {R R1 : Nat → Nat → Option Nat} {sh : Nat → Nat × Nat} {nt nP nF E r : Nat} {G : Nat → Int32} (hE : E < 12) (hw : WFF G nF nt E) (h : FR K F C S I R sh nt 0 G nP E) (hr : r < nRof G E) (hs : RSh E r (nRof G E - 1) I J1 R R1) (e : J = u2 J1 (fe 0 E) 5 (nI (nRof G E - 1))) : FR K F C S J R1 sh nt 0 (g_drop1 G E r) nP E := by
  obtain ⟨tp, kl, sk, fb, nR, nN, nO, fr, to, -, -, -, -, ⟨-, b4, c4, -⟩, ⟨-, b5, c5, -⟩, ⟨-, b6, c6, -⟩, -⟩ := wfn hw
  obtain ⟨⟨x0, x1, x2, x3, x4, x5, x6, x7, x8⟩, y2, y3, y4, y5, y6⟩ := h
  have hfl := fe_lt (e := 0) (by decide) hE
  unfold dk at hfl
  have en : nRof G E = nR := by unfold nRof; rw [b4, Int.toNat_natCast]
  rw [en] at hr hs e y6
  obtain ⟨s1, s2, s3⟩ := hs
  have hn3 : nNof G E ≤ 3 := by unfold nNof; rw [b5, Int.toNat_natCast]; exact c5
  have ho8 : nOof G E ≤ 8 := by unfold nOof; rw [b6, Int.toNat_natCast]; exact c6
  generalize hX : g_drop1 G E r = X
  unfold g_drop1 at hX
  rw [b4, Int.toNat_natCast] at hX
  have xo : ∀ w, w < 84 → w ≠ 4 → ¬ (60 + 4 * r ≤ w ∧ w < 60 + 4 * (nR - 1)) → X (174 + 84 * E + w) = G (174 + 84 * E + w) := fun w h1 h2 h3 => by rw [← hX, u1_o (by omega), shf_o (by omega)]
  have xs : ∀ s k, r ≤ s → s < nR - 1 → k < 4 → X (174 + 84 * E + 60 + 4 * s + k) = G (174 + 84 * E + 60 + 4 * (s + 1) + k) := fun s k h1 h2 h3 => by
    rw [← hX, u1_o (by omega)]; unfold shf; rw [if_pos (by omega)]; congr 1; omega
  have x4' : X (174 + 84 * E + 4) = nI (nR - 1) := by rw [← hX, u1_i]
  have xp : ∀ q, q < 84 → X q = G q := fun q hq => by rw [← hX, u1_o (by omega), shf_o (by omega)]
  have jo : ∀ k j, k < 7 → ¬ (k = 0 ∧ j = 5) → J (fe 0 E + k) j = I (fe 0 E + k) j := fun k j hk hj => by
    rw [show J (fe 0 E + k) j = J1 (fe 0 E + k) j from by
      by_cases z : k = 0
      · subst z; exact rd_nk e (fun y => hj ⟨rfl, y⟩)
      · exact rd_ne e (by omega)]
    exact s2 _ _ (fun s a b => by unfold ru; omega)
  have jr : ∀ s j, J (ru 0 E s) j = J1 (ru 0 E s) j ∧ J (ru 0 E s + 1) j = J1 (ru 0 E s + 1) j := fun s j => ⟨rd_ne e (by unfold ru; omega), rd_ne e (by unfold ru; omega)⟩
  have hJ : ∀ a j, 781 ≤ a → (sh a).1 ≠ 14 → J a j = I a j := fun a j h1 _ => (rd_ne e (by omega)).trans (s2 _ _ (fun s a b => by unfold ru fe; omega))
  have hR : ∀ a j, 781 ≤ a → R1 a j = R a j := fun a j h1 => s3 _ _ (fun s a b => by unfold ru fe; omega)
  have hr' : nRof X E = nR - 1 := by unfold nRof; rw [x4', nI_toInt (by omega), Int.toNat_natCast]
  have hn : nNof X E = nNof G E := by unfold nNof; rw [xo 5 (by omega) (by omega) (by omega)]
  refine ⟨⟨by have := jo 0 0 (by omega) (by omega); rw [show fe 0 E + 0 = fe 0 E from rfl] at this; rw [this, xo 0 (by omega) (by omega) (by omega)]; exact x0, by have := jo 0 1 (by omega) (by omega); rw [show fe 0 E + 0 = fe 0 E from rfl] at this; rw [this, xo 1 (by omega) (by omega) (by omega)]; exact x1, by have := jo 0 2 (by omega) (by omega); rw [show fe 0 E + 0 = fe 0 E from rfl] at this; rw [this, xo 2 (by omega) (by omega) (by omega)]; exact x2, by have := jo 0 3 (by omega) (by omega); rw [show fe 0 E + 0 = fe 0 E from rfl] at this; rw [this, xo 3 (by omega) (by omega) (by omega)]; exact x3, by rw [rd_eq e, x4'], by have := jo 0 8 (by omega) (by omega); rw [show fe 0 E + 0 = fe 0 E from rfl] at this; rw [this, xo 5 (by omega) (by omega) (by omega)]; exact x5, by have := jo 0 12 (by omega) (by omega); rw [show fe 0 E + 0 = fe 0 E from rfl] at this; rw [this, xo 7 (by omega) (by omega) (by omega)]; exact x6, by have := jo 0 13 (by omega) (by omega); rw [show fe 0 E + 0 = fe 0 E from rfl] at this; rw [this, xo 8 (by omega) (by omega) (by omega)]; exact x7, by have := jo 0 14 (by omega) (by omega); rw [show fe 0 E + 0 = fe 0 E from rfl] at this; rw [this, xo 9 (by omega) (by omega) (by omega)]; exact x8⟩, fun n hn2 => ?_, fun p hp => ?_, fun p hp => ?_, fun v hv => ?_, fun s hs2 => ?_⟩
  · rw [hn] at hn2
    rw [jo 2 _ (by omega) (by omega), jo 3 _ (by omega) (by omega), xo (14 + 2 * n) (by omega) (by omega) (by omega), xo (14 + 2 * n + 1) (by omega) (by omega) (by omega)]; exact y2 n hn2
  · rw [jo 4 _ (by omega) (by omega), y3 p hp]
    by_cases q : p < nP
    · rw [if_pos q, if_pos q, xp _ (by omega), ovV_c (fun w hw => xo w (by omega) (by omega) (by omega)) ho8]
    · rw [if_neg q, if_neg q]
  · rw [jo 5 _ (by omega) (by omega), xo (36 + p) (by omega) (by omega) (by omega)]; exact y4 p hp
  · rw [jo 6 _ (by omega) (by omega), xo (10 + v) (by omega) (by omega) (by omega)]; exact y5 v hv
  · rw [hr'] at hs2
    rcases Nat.lt_or_ge s r with q | q
    · have nn : ∀ t, r ≤ t → ru 0 E s ≠ ru 0 E t ∧ ru 0 E s ≠ ru 0 E t + 1 ∧ ru 0 E s + 1 ≠ ru 0 E t ∧ ru 0 E s + 1 ≠ ru 0 E t + 1 := fun t ht => by unfold ru; omega
      refine (y6 s (by omega)).c hJ hR (fun j => (jr s j).1.trans (s2 _ _ (fun t a b => ⟨(nn t a).1, (nn t a).2.1⟩))) (fun j => (jr s j).2.trans (s2 _ _ (fun t a b => ⟨(nn t a).2.2.1, (nn t a).2.2.2⟩))) (s3 _ _ (fun t a b z => (nn t a).1 z.1)) (fun k hk => ?_)
      have := xo (60 + 4 * s + k) (by omega) (by omega) (by omega)
      rwa [show 174 + 84 * E + (60 + 4 * s + k) = 174 + 84 * E + 60 + 4 * s + k by omega] at this
    · obtain ⟨a1, a2, c, m, b, a3, a4, a5⟩ := y6 (s + 1) (by omega)
      obtain ⟨u1', u2', u3'⟩ := s1 s q (by omega)
      refine ⟨?_, ?_, c, m, b, by rw [u2']; exact a3, a4.fr hJ hR, ?_⟩
      · rw [(jr s 1).1, u1', xs s 1 q (by omega) (by omega)]; exact a1
      · rw [(jr s 1).1, (jr s 0).2, (jr s 1).2, (jr s 2).2, u1', u3' 0 (by omega), u3' 1 (by omega), u3' 2 (by omega), xs s 1 q (by omega) (by omega), xs s 2 q (by omega) (by omega), xs s 3 q (by omega) (by omega)]; exact a2
      · rw [xs s 0 q (by omega) (by omega)]; exact a5
theorem DR.drop {K F C S : Nat → Int32} {I J1 J : Nat → Nat → Int32} {R R1 : Nat → Nat → Option Nat} {sh : Nat → Nat × Nat} {nt nP nF nS E r : Nat} {G : Nat → Int32} (hW : WFA G nP nF nt) (hT : WFT G nF nS) (hE : E < nF) (h : DR K F C S I R sh nt 0 G nP nF nS) (hr : r < nRof G E) (hs : RSh E r (nRof G E - 1) I J1 R R1) (e : J = u2 J1 (fe 0 E) 5 (nI (nRof G E - 1))) (hf : RfOK R1) : FrD sh I J ∧ FrRD R R1 ∧ DR K F C S J R1 sh nt 0 (g_drop1 G E r) nP nF nS := by
  have hE12 : E < 12 := by have := hW.2.2.2.1; omega
  have hw := hW.2.2.2.2.1 E hE
  have hFR := FR.drop hE12 hw (h.2.2.2.1 E hE) hr hs e
  obtain ⟨tp, kl, sk, fb, nR, nN, nO, fr, to, -, -, -, -, ⟨-, b4, c4, -⟩, -⟩ := wfn hw
  have en : nRof G E = nR := by unfold nRof; rw [b4, Int.toNat_natCast]
  rw [en] at hr hs e
  have hfl := fe_lt (e := 0) (by decide) hE12
  unfold dk at hfl
  have x1 : ∀ s, s < nR - 1 → fe 0 E ≤ ru 0 E s ∧ ru 0 E s + 1 < fe 0 E + 19 := fun s hs => by unfold ru; omega
  have k : ∀ a j, ¬ (fe 0 E ≤ a ∧ a < fe 0 E + 19) → J a j = I a j := fun a j q => (rd_ne e (by omega)).trans (hs.2.1 _ _ (fun s a b => by have := x1 s b; omega))
  have kR : ∀ a j, ¬ (fe 0 E ≤ a ∧ a < fe 0 E + 19) → R1 a j = R a j := fun a j q => hs.2.2 _ _ (fun s a b w => by have := x1 s b; omega)
  refine ⟨fun a j _ z => k a j (by omega), ⟨fun a j z _ => kR a j (by omega), fun _ => hf⟩, DR.feat hW hT (by decide) hE h (fun a j h1 _ => k a j (by omega)) (fun a j h1 => kR a j (by omega)) (fun a j _ _ q => k a j q) (fun a j _ _ q => kR a j q) (fun j hj => ?_) hFR⟩
  unfold g_drop1
  rw [b4, Int.toNat_natCast, u1_o (by omega), shf_o (by omega)]
theorem c_Ru_take {d : Nat} {J : Nat → Nat → Int32} {R : Nat → Nat → Option Nat} {L : Nat → Nat → Int64} {sh : Nat → Nat × Nat} {N : Nat}  {q c P : Nat} (hq0 : sh q = (6, 0)) (hq1 : sh (q + 1) = (12, 3)) (hq2 : R q 2 = some (q + 1)) (hPs : sh P = (12, 3)) {f : Int32} (hd : 3 ≤ d) : Mt mi_Ru_take d 0 0 [.ref q, .ref c, .int f, .ref P] (J, R, L, sh, N) (fun r h2 => r = none ∧ ∃ K1 K2 R2, h2 = (K2, R2, L, sh, N) ∧ R2 = u2 R q 0 (some c) ∧ K1 = u2 J q 1 f ∧ K2 = cpyI K1 P 0 (q + 1) 0 3) := by
  refine Mt.of pn_Ru (Nat.le_of_ble_eq_true rfl) ?_
  show Run mi_Ru_take d 0 0 0 [(0, .ref q), (1, .ref c), (2, .int f), (3, .ref P)] [] (J, R, L, sh, N) _
  refine r_aload_n (x := some q) (pc2 := 1) d_Ru_take_0 rfl rfl ?_
  refine r_aload_n (x := some c) (pc2 := 2) d_Ru_take_1 rfl rfl ?_
  refine q_putR (x := some c) (pc2 := 5) d_Ru_take_2 rfl k_Ru_9 rfl hq0 (Or.inl rfl) (fun R1 hR1 => ?_)
  refine r_aload_n (x := some q) (pc2 := 6) d_Ru_take_5 rfl rfl ?_
  refine r_iload_n (pc2 := 7) d_Ru_take_6 rfl rfl ?_
  refine q_putI (pc2 := 10) d_Ru_take_7 rfl k_Ru_15 (Or.inl rfl) hq0 (Or.inl rfl) (fun I2 hI2 => ?_)
  refine r_aload_n (x := some P) (pc2 := 11) d_Ru_take_10 rfl rfl ?_
  refine r_iconst (v := nI 0) (pc2 := 12) d_Ru_take_11 rfl (by decide) ?_
  refine r_aload_n (x := some q) (pc2 := 13) d_Ru_take_12 rfl rfl ?_
  refine q_getR (x := some (q + 1)) (pc2 := 16) d_Ru_take_13 rfl k_Ru_19 rfl hq0 ((rd_nk hR1 (by decide)).trans (by first | exact hq2 | (rw [rd_nk hR1 (by decide)]; exact hq2) | (rw [rd_nk hR2 (by decide)]; exact hq2))) ?_
  refine r_iconst (v := nI 0) (pc2 := 17) d_Ru_take_16 rfl (by decide) ?_
  refine r_aload_n (x := some P) (pc2 := 18) d_Ru_take_17 rfl rfl ?_
  refine r_alen (pc2 := 19) d_Ru_take_18 rfl hPs (by decide) (by decide) ?_
  refine r_iconst (v := nI 3) (pc2 := 20) d_Ru_take_19 rfl (by decide) ?_
  refine q_calls (M2 := mi_JM_min) (pc2 := 23) d_Ru_take_20 rfl k_Ru_23 cm_JM_min cs_JM_min rfl rfl (Nat.le_of_ble_eq_true rfl) (c_JM_min (A := 3) (B := 3) (by omega) (by omega)) (d2 := d - 1) (by omega) (Nat.le_of_eq (Nat.zero_add _)) (Nat.le_of_eq (Nat.zero_add _)) ?_
  refine r_copyI (SP := 0) (DP := 0) (K := 3) (pc2 := 26) d_Ru_take_23 rfl k_Ru_29 ac_native ac_static iw_JS hPs hq1 (nI_toInt (by omega)) (nI_toInt (by omega)) (nI_toInt (by omega)) (by omega) (by omega) (by omega) (Nat.le_of_ble_eq_true rfl) ?_
  obtain ⟨K3, hK3⟩ : ∃ x, x = cpyI I2 P 0 (q + 1) 0 3 := ⟨_, rfl⟩
  rw [← hK3]
  refine Run.ret none d_Ru_take_26 rfl ?_
  exact ⟨rfl, _, _, _, rfl, hR1, hI2, hK3⟩
theorem l_Fe_removeRule {d : Nat} {J : Nat → Nat → Int32} {R : Nat → Nat → Option Nat} {L : Nat → Nat → Int64} {sh : Nat → Nat × Nat} {N : Nat} (hS : ShOK sh) (hR : RfOK R) {F : Nat} (hF : F < 12) {nR r : Nat} (hn : J (fe 0 F) 5 = nI nR) (hR6 : nR ≤ 6) (hrn : r < nR) (hC : ∀ s, s < nR → ∃ c, R (ru 0 F s) 0 = some c) (hd : 10 ≤ d) {Q : Option Value → HS → Prop} (hq : ∀ J1 R1 K, RSh F r (nR - 1) J J1 R R1 → RfOK R1 → K = u2 J1 (fe 0 F) 5 (nI (nR - 1)) → Q none (K, R1, L, sh, N)) : ∀ (n_ : Nat) (i : Nat) (J1 : Nat → Nat → Int32) (R1 : Nat → Nat → Option Nat), nR - i = n_ → (RSh F r i J J1 R R1) → (RfOK R1) → (r ≤ i) → (i + 1 ≤ nR) → Run mi_Fe_removeRule d 0 0 2 [(0, .ref (fe 0 F)), (1, .int (nI r)), (2, .int (nI i))] [] (J1, R1, L, sh, N) Q := by
  intro n_
  induction n_ using Nat.strongRecOn with | ind n_ ih_ => ?_
  intro i J1 R1 hn_ v0_ v1_ v2_ v3_
  have hn1 : J1 (fe 0 F) 5 = nI nR := (v0_.2.1 _ _ (fun s a b => by unfold ru; omega)).trans hn
  refine r_iload_n (pc2 := 3) d_Fe_removeRule_2 rfl rfl ?_
  refine r_iconst (v := nI 1) (pc2 := 4) d_Fe_removeRule_3 rfl (by decide) ?_
  refine q_iaddN (pc2 := 5) d_Fe_removeRule_4 rfl ?_
  refine r_aload_n (x := some (fe 0 F)) (pc2 := 6) d_Fe_removeRule_5 rfl rfl ?_
  refine q_getI (x := nI nR) (pc2 := 9) d_Fe_removeRule_6 rfl k_Fe_30 (by decide) (sh_fe0 hS (show 0 < 3 by decide) hF) hn1 ?_
  refine q_icmp_ge (tgt := 60) (A := ((i + 1 : Nat) : Int)) (B := ((nR : Nat) : Int)) (pc2 := 12) d_Fe_removeRule_9 rfl rfl (nI_toInt (by omega)) (nI_toInt (by omega)) (fun c1 => ?_) (fun c1 => ?_)
  · refine r_aload_n (x := some (fe 0 F)) (pc2 := 61) d_Fe_removeRule_60 rfl rfl ?_
    refine r_dup (pc2 := 62) d_Fe_removeRule_61 rfl rfl ?_
    refine q_getI (x := nI nR) (pc2 := 65) d_Fe_removeRule_62 rfl k_Fe_30 (by decide) (sh_fe0 hS (show 0 < 3 by decide) hF) hn1 ?_
    refine r_iconst (v := nI 1) (pc2 := 66) d_Fe_removeRule_65 rfl (by decide) ?_
    refine q_isubN (pc2 := 67) d_Fe_removeRule_66 rfl (by omega) ?_
    refine q_putI (pc2 := 70) d_Fe_removeRule_67 rfl k_Fe_30 (Or.inl rfl) (sh_fe0 hS (show 0 < 3 by decide) hF) (Or.inl rfl) (fun I2 hI2 => ?_)
    refine Run.ret none d_Fe_removeRule_70 rfl ?_
    exact hq J1 R1 _ (by rw [show nR - 1 = i by omega]; exact v0_) v1_ hI2
  · obtain ⟨cc, hcc0⟩ := hC (i + 1) (by omega)
    have hcc : R1 (ru 0 F (i + 1)) 0 = some cc := (v0_.2.2 _ _ (fun s a b w => by have := w.1; unfold ru at this; omega)).trans hcc0
    refine r_aload_n (x := some (fe 0 F)) (pc2 := 13) d_Fe_removeRule_12 rfl rfl ?_
    refine q_getR (x := some (fe 0 F + 1)) (pc2 := 16) d_Fe_removeRule_13 rfl k_Fe_26 rfl (sh_fe0 hS (show 0 < 3 by decide) hF) (rf_fe_4 v1_ (show 0 < 3 by decide) hF) ?_
    refine r_iload_n (pc2 := 17) d_Fe_removeRule_16 rfl rfl ?_
    refine q_aaload (q := i) (x := some (ru 0 F i)) (pc2 := 18) d_Fe_removeRule_17 rfl (sh_fe1 hS (show 0 < 3 by decide) hF) (by decide) (by decide) (nI_toInt (by omega)) (by omega) (rf_ru v1_ (show 0 < 3 by decide) hF (show i < 6 by omega)) ?_
    refine r_aload_n (x := some (fe 0 F)) (pc2 := 19) d_Fe_removeRule_18 rfl rfl ?_
    refine q_getR (x := some (fe 0 F + 1)) (pc2 := 22) d_Fe_removeRule_19 rfl k_Fe_26 rfl (sh_fe0 hS (show 0 < 3 by decide) hF) (rf_fe_4 v1_ (show 0 < 3 by decide) hF) ?_
    refine r_iload_n (pc2 := 23) d_Fe_removeRule_22 rfl rfl ?_
    refine r_iconst (v := nI 1) (pc2 := 24) d_Fe_removeRule_23 rfl (by decide) ?_
    refine q_iaddN (pc2 := 25) d_Fe_removeRule_24 rfl ?_
    refine q_aaload (q := i + 1) (x := some (ru 0 F (i + 1))) (pc2 := 26) d_Fe_removeRule_25 rfl (sh_fe1 hS (show 0 < 3 by decide) hF) (by decide) (by decide) (nI_toInt (by omega)) (by omega) (rf_ru v1_ (show 0 < 3 by decide) hF (show i + 1 < 6 by omega)) ?_
    refine q_getR (x := some cc) (pc2 := 29) d_Fe_removeRule_26 rfl k_Fe_68 rfl (sh_ru hS (show 0 < 3 by decide) hF (show i + 1 < 6 by omega)) hcc ?_
    refine r_aload_n (x := some (fe 0 F)) (pc2 := 30) d_Fe_removeRule_29 rfl rfl ?_
    refine q_getR (x := some (fe 0 F + 1)) (pc2 := 33) d_Fe_removeRule_30 rfl k_Fe_26 rfl (sh_fe0 hS (show 0 < 3 by decide) hF) (rf_fe_4 v1_ (show 0 < 3 by decide) hF) ?_
    refine r_iload_n (pc2 := 34) d_Fe_removeRule_33 rfl rfl ?_
    refine r_iconst (v := nI 1) (pc2 := 35) d_Fe_removeRule_34 rfl (by decide) ?_
    refine q_iaddN (pc2 := 36) d_Fe_removeRule_35 rfl ?_
    refine q_aaload (q := i + 1) (x := some (ru 0 F (i + 1))) (pc2 := 37) d_Fe_removeRule_36 rfl (sh_fe1 hS (show 0 < 3 by decide) hF) (by decide) (by decide) (nI_toInt (by omega)) (by omega) (rf_ru v1_ (show 0 < 3 by decide) hF (show i + 1 < 6 by omega)) ?_
    refine q_getI (x := J1 (ru 0 F (i + 1)) 1) (pc2 := 40) d_Fe_removeRule_37 rfl k_Fe_72 (by decide) (sh_ru hS (show 0 < 3 by decide) hF (show i + 1 < 6 by omega)) rfl ?_
    refine r_aload_n (x := some (fe 0 F)) (pc2 := 41) d_Fe_removeRule_40 rfl rfl ?_
    refine q_getR (x := some (fe 0 F + 1)) (pc2 := 44) d_Fe_removeRule_41 rfl k_Fe_26 rfl (sh_fe0 hS (show 0 < 3 by decide) hF) (rf_fe_4 v1_ (show 0 < 3 by decide) hF) ?_
    refine r_iload_n (pc2 := 45) d_Fe_removeRule_44 rfl rfl ?_
    refine r_iconst (v := nI 1) (pc2 := 46) d_Fe_removeRule_45 rfl (by decide) ?_
    refine q_iaddN (pc2 := 47) d_Fe_removeRule_46 rfl ?_
    refine q_aaload (q := i + 1) (x := some (ru 0 F (i + 1))) (pc2 := 48) d_Fe_removeRule_47 rfl (sh_fe1 hS (show 0 < 3 by decide) hF) (by decide) (by decide) (nI_toInt (by omega)) (by omega) (rf_ru v1_ (show 0 < 3 by decide) hF (show i + 1 < 6 by omega)) ?_
    refine q_getR (x := some (ru 0 F (i + 1) + 1)) (pc2 := 51) d_Fe_removeRule_48 rfl k_Fe_75 rfl (sh_ru hS (show 0 < 3 by decide) hF (show i + 1 < 6 by omega)) (rf_rp v1_ (show 0 < 3 by decide) hF (show i + 1 < 6 by omega)) ?_
    refine r_callv (M2 := mi_Ru_take) (pc2 := 54) d_Fe_removeRule_51 rfl k_Fe_78 cm_Ru_take cv_Ru_take (sh_ru hS (show 0 < 3 by decide) hF (show i < 6 by omega)) (by decide) rfl rfl rfl (Nat.le_of_ble_eq_true rfl) (c_Ru_take (J := J1) (R := R1) (q := ru 0 F i) (sh_ru hS (show 0 < 3 by decide) hF (show i < 6 by omega)) (sh_rp hS (show 0 < 3 by decide) hF (show i < 6 by omega)) (rf_rp v1_ (show 0 < 3 by decide) hF (show i < 6 by omega)) (P := ru 0 F (i + 1) + 1) (sh_rp hS (show 0 < 3 by decide) hF (show i + 1 < 6 by omega)) (c := cc) (f := J1 (ru 0 F (i + 1)) 1) (d := d - 1) (by omega)) (d2 := d - 1) (by omega) (Nat.le_of_eq (Nat.zero_add _)) (Nat.le_of_eq (Nat.zero_add _)) (fun r2 h2 hq2 => ?_)
    obtain ⟨rfl, K1, K2, R2, rfl, e1, e2, e3⟩ := hq2
    change Run _ _ _ _ _ _ [] _ _
    refine q_iinc (b := 1) (pc2 := 57) d_Fe_removeRule_54 rfl rfl (by decide) (Nat.le_of_ble_eq_true rfl) ?_
    refine r_goto (tgt := 2) d_Fe_removeRule_57 rfl ?_
    refine Run.sub (l2 := [(0, .ref (fe 0 F)), (1, .int (nI r)), (2, .int (nI (i + 1)))]) ⟨rfl, rfl, rfl, trivial⟩ ?_
    exact ih_ (nR - (i + 1)) (by omega) (i + 1) K2 R2 rfl (RSh.s (by omega) v0_ hcc.symm rfl e1 e2 e3) (RfOK_ru v1_ (fun a j q => by
      by_cases y : a = ru 0 F i
      · exact y ▸ rd_nk e1 (fun w => q 0 F i (by decide) hF (by omega) ⟨y, w⟩)
      · exact rd_ne e1 y)) (by omega) (by omega)
theorem c_Fe_removeRule {d : Nat} {J : Nat → Nat → Int32} {R : Nat → Nat → Option Nat} {L : Nat → Nat → Int64} {sh : Nat → Nat × Nat} {N : Nat} (hS : ShOK sh) (hR : RfOK R) {F : Nat} (hF : F < 12) {nR r : Nat} (hn : J (fe 0 F) 5 = nI nR) (hR6 : nR ≤ 6) (hrn : r < nR) (hC : ∀ s, s < nR → ∃ c, R (ru 0 F s) 0 = some c) (hd : 10 ≤ d) : Mt mi_Fe_removeRule d 0 0 [.ref (fe 0 F), .int (nI r)] (J, R, L, sh, N) (fun x h2 => x = none ∧ ∃ J1 R1 K, h2 = (K, R1, L, sh, N) ∧ RSh F r (nR - 1) J J1 R R1 ∧ RfOK R1 ∧ K = u2 J1 (fe 0 F) 5 (nI (nR - 1))) := by
  refine Mt.of pn_Fe (Nat.le_of_ble_eq_true rfl) ?_
  show Run mi_Fe_removeRule d 0 0 0 [(0, .ref (fe 0 F)), (1, .int (nI r))] [] (J, R, L, sh, N) _
  refine r_iload_n (pc2 := 1) d_Fe_removeRule_0 rfl rfl ?_
  refine r_istore_n (pc2 := 2) d_Fe_removeRule_1 rfl rfl (Nat.le_of_ble_eq_true rfl) ?_
  refine Run.sub (l2 := [(0, .ref (fe 0 F)), (1, .int (nI r)), (2, .int (nI r))]) ⟨rfl, rfl, rfl, trivial⟩ ?_
  exact l_Fe_removeRule hS hR hF hn hR6 hrn hC hd (fun J1 R1 K a b c => ⟨rfl, J1, R1, K, rfl, a, b, c⟩) _ r _ _ rfl RSh.rf hR (Nat.le_refl _) (by omega)
theorem c_X_drop {d : Nat} {I : Nat → Nat → Int32} {R : Nat → Nat → Option Nat} {L : Nat → Nat → Int64} {sh : Nat → Nat × Nat} {N : Nat} (hS : ShOK sh) (hR : RfOK R) {tK tF tC tS : Nat → Int32} {nt : Nat} (hV : TV tK tF tC nt) (hV2 : TV2 tK tF tC tS nt) (hnt6 : nt ≤ 1000000) {G : Nat → Int32} {nP nF nS : Nat} (hW : WFA G nP nF nt) (hWT : WFT G nF nS) (hKW : WFK G nP nF) {rk : Nat → Nat} (hrk : RK G nF rk) (hD : DR tK tF tC tS I R sh nt 0 G nP nF nS) {f : Int32} {s : Int32} (hd : 90 ≤ d) : Mt mi_X_drop d 0 0 [.ref 0, .int f, .int s] (I, R, L, sh, N) (XD I R L sh N (o_drop G nF f s) (PD tK tF tC tS I R sh nt (g_drop G nF f s) nP nF nS)) := by
  obtain ⟨hPc, hP24, hFc, hF12, hWF, hWP⟩ := id hW
  have hS24 := hWT.2.1
  refine Mt.of pn_X (Nat.le_of_ble_eq_true rfl) ?_
  show Run mi_X_drop d 0 0 0 [(0, .ref 0), (1, .int f), (2, .int s)] [] (I, R, L, sh, N) _
  refine r_aload_n (x := some 0) (pc2 := 1) d_X_drop_0 rfl rfl ?_
  refine r_iload_n (pc2 := 2) d_X_drop_1 rfl rfl ?_
  refine r_iload_n (pc2 := 3) d_X_drop_2 rfl rfl ?_
  refine q_callv (M2 := mi_X_isRule) (pc2 := 6) d_X_drop_3 rfl k_X_122 cm_X_isRule cv_X_isRule (sh_0 hS) (by decide) rfl rfl rfl (Nat.le_of_ble_eq_true rfl) (c_X_isRule (f := f) (r := s) hS hR hV hV2 hnt6 hW hWT hKW hrk hD (by omega)) (d2 := d - 1) (by omega) (Nat.le_of_eq (Nat.zero_add _)) (Nat.le_of_eq (Nat.zero_add _)) ?_
  refine q_bif_ne (tgt := 16) (pc2 := 9) d_X_drop_6 rfl rfl (fun c1 => ?_) (fun c1 => ?_)
  · obtain ⟨fN, hfN, rfl, efN⟩ := nat_of c1.1
    obtain ⟨tpfN, klfN, skfN, fbfN, nRfN, nNfN, nOfN, frfN, tofN, ⟨a0fN, b0fN, cc0fN, dd0fN⟩, ⟨a1fN, b1fN, cc1fN, dd1fN⟩, ⟨a2fN, b2fN, cc2fN, dd2fN⟩, ⟨a3fN, b3fN, cc3fN, dd3fN⟩, ⟨a4fN, b4fN, cc4fN, dd4fN⟩, ⟨a5fN, b5fN, cc5fN, dd5fN⟩, ⟨a6fN, b6fN, cc6fN, dd6fN⟩, ⟨a8fN, b8fN, cc8fN, dd8fN⟩, ⟨a9fN, b9fN, cc9fN, dd9fN⟩⟩ := wfn (hWF fN (by omega))
    obtain ⟨-, -, -, -, -, -, -, w7fN, -, -, wNfN, wRfN, wKfN, wOfN⟩ := hWF fN (by omega)
    obtain ⟨⟨x0fN, x1fN, x2fN, x3fN, x4fN, x5fN, x6fN, x7fN, x8fN⟩, xnfN, xofN, xkfN, xcfN, xrfN⟩ := hD.2.2.2.1 fN (by omega)
    have hflfN := fe_lt (e := 0) (by decide) (show fN < 12 by omega)
    unfold dk at hflfN
    simp only [efN, Int.toNat_natCast, b4fN] at c1
    obtain ⟨sN, hsN, rfl, esN⟩ := nat_of c1.2
    obtain ⟨rtfNsN, rafNsN, rbfNsN, rcfNsN, ⟨t0fNsN, t1fNsN, t2fNsN⟩, ⟨u0fNsN, u1fNsN, u2fNsN⟩, ⟨v0fNsN, v1fNsN, v2fNsN⟩, ⟨z0fNsN, z1fNsN, z2fNsN⟩⟩ := wrn (wRfN sN (by omega))
    obtain ⟨rffNsN, rsfNsN, cfNsN, mfNsN, bbfNsN, rrfNsN, cofNsN, bnfNsN, ttfNsN⟩ := xrfN sN (by unfold nRof; rw [b4fN, Int.toNat_natCast]; omega)
    have cmfNsN := cofNsN.2.2.1
    have c781fNsN := cofNsN.2.2.2.1
    refine r_aload_n (x := some 0) (pc2 := 17) d_X_drop_16 rfl rfl ?_
    refine q_getR (x := some 1) (pc2 := 20) d_X_drop_17 rfl k_X_12 rfl (sh_0 hS) (rf_0_0 hR) ?_
    refine q_getR (x := some 5) (pc2 := 23) d_X_drop_20 rfl k_X_211 rfl (sh_1 hS) (rf_1_1 hR) ?_
    refine r_iload_n (pc2 := 24) d_X_drop_23 rfl rfl ?_
    refine q_aaload (q := fN) (x := some (fe 0 fN)) (pc2 := 25) d_X_drop_24 rfl (sh_5 hS) (by decide) (by decide) (nI_toInt (by omega)) (by omega) (rf_fe hR (show 0 < 3 by decide) (show fN < 12 by omega)) ?_
    refine r_astore_n (x := some (fe 0 fN)) (pc2 := 26) d_X_drop_25 rfl rfl (Nat.le_of_ble_eq_true rfl) ?_
    refine r_aload_n (x := some (fe 0 fN)) (pc2 := 27) d_X_drop_26 rfl rfl ?_
    refine r_iload_n (pc2 := 28) d_X_drop_27 rfl rfl ?_
    refine r_callv (M2 := mi_Fe_removeRule) (pc2 := 31) d_X_drop_28 rfl k_X_257 cm_Fe_removeRule cv_Fe_removeRule (sh_fe0 hS (show 0 < 3 by decide) (show fN < 12 by omega)) (by decide) rfl rfl rfl (Nat.le_of_ble_eq_true rfl) (c_Fe_removeRule (J := I) hS hR (F := fN) (by omega) (nR := nRfN) (r := sN) (x4fN.trans a4fN) (by omega) (by omega) (fun s hs => by obtain ⟨-, -, c, m, b, hc, -⟩ := (hD.2.2.2.1 fN (by omega)).2.2.2.2.2 s (by unfold nRof; rw [b4fN, Int.toNat_natCast]; exact hs); exact ⟨c, hc⟩) (d := d - 1) (by omega)) (d2 := d - 1) (by omega) (Nat.le_of_eq (Nat.zero_add _)) (Nat.le_of_eq (Nat.zero_add _)) (fun r2 h2 hq2 => ?_)
    obtain ⟨rfl, J1, R1, K, rfl, hsh, hRf, hKu⟩ := hq2
    change Run _ _ _ _ _ _ [] _ _
    have enR : nRof G fN = nRfN := by unfold nRof; rw [b4fN, Int.toNat_natCast]
    have hdr := DR.drop (J1 := J1) (J := K) hW hWT (by omega) hD (r := sN) (by omega) (by rw [enR]; exact hsh) (by rw [enR]; exact hKu) hRf
    refine r_aload_n (x := some (fe 0 fN)) (pc2 := 32) d_X_drop_31 rfl rfl ?_
    refine q_getI (x := nI (nRfN - 1)) (pc2 := 35) d_X_drop_32 rfl k_X_236 (by decide) (sh_fe0 hS (show 0 < 3 by decide) (show fN < 12 by omega)) (rd_eq hKu) ?_
    refine Run.ret (some (.int (nI (nRfN - 1)))) d_X_drop_35 ⟨_, rfl⟩ ?_
    exact XD.val (by (try simp only [efN, b0fN, b1fN, b2fN, b3fN, b4fN, b5fN, b6fN, b8fN, b9fN, esN, t1fNsN, u1fNsN, v1fNsN, z1fNsN, Int.toNat_natCast] at c1); (unfold o_drop); (try dsimp only); (try simp only [efN, b0fN, b1fN, b2fN, b3fN, b4fN, b5fN, b6fN, b8fN, b9fN, esN, t1fNsN, u1fNsN, v1fNsN, z1fNsN, Int.toNat_natCast]); (repeat (first | rw [if_pos (by omega)] | rw [if_neg (by omega)])); (try rfl); (all_goals first | rfl | (simp only [a0fN, a1fN, a2fN, a3fN, a4fN, a5fN, a6fN, a8fN, a9fN]; done) | (congr 2 <;> omega) | ((repeat' split) <;> first | rfl | (simp only [a0fN, a1fN, a2fN, a3fN, a4fN, a5fN, a6fN, a8fN, a9fN]; done) | (exfalso; omega) | (congr 2 <;> omega) | skip))) ⟨hdr.1, hdr.2.1, by (try simp only [efN, b0fN, b1fN, b2fN, b3fN, b4fN, b5fN, b6fN, b8fN, b9fN, esN, t1fNsN, u1fNsN, v1fNsN, z1fNsN, Int.toNat_natCast] at c1); (unfold g_drop); (try dsimp only); (try simp only [efN, b0fN, b1fN, b2fN, b3fN, b4fN, b5fN, b6fN, b8fN, b9fN, esN, t1fNsN, u1fNsN, v1fNsN, z1fNsN, Int.toNat_natCast]); (repeat (first | rw [if_pos (by omega)] | rw [if_neg (by omega)])); exact hdr.2.2⟩
  · refine r_aload_n (x := some 0) (pc2 := 10) d_X_drop_9 rfl rfl ?_
    refine r_bipush (v := (-32 : Int32)) (pc2 := 12) d_X_drop_10 rfl (by decide) ?_
    refine q_callv (M2 := mi_X_refuse) (pc2 := 15) d_X_drop_12 rfl k_X_75 cm_X_refuse cv_X_refuse (sh_0 hS) (by decide) rfl rfl rfl (Nat.le_of_ble_eq_true rfl) (c_X_refuse_0 (J := I) hS hR) (d2 := d - 1) (by omega) (Nat.le_of_eq (Nat.zero_add _)) (Nat.le_of_eq (Nat.zero_add _)) ?_
    obtain ⟨I2, hI2⟩ : ∃ x, x = u2 I 744 0 (I 744 0 + nI 1) := ⟨_, rfl⟩
    rw [← hI2]
    refine Run.ret (some (.int ((-32 : Int32)))) d_X_drop_15 ⟨_, rfl⟩ ?_
    exact XD.bad hS 0 (by (unfold o_drop); (try dsimp only); (try simp only [Int.toNat_natCast]); (repeat (first | rw [if_pos (by omega)] | rw [if_neg (by omega)])); (try rfl); (all_goals first | rfl | (congr 2 <;> omega) | ((repeat' split) <;> first | rfl | (exfalso; omega) | (congr 2 <;> omega) | skip))) (by decide) FrXR.rf FrX.rf hI2
