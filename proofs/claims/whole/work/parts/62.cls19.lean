/-! THE CLASS: drop -/
theorem FR.drop {K F C S : Nat → Int32} {I J1 J : Nat → Nat → Int32} {R R1 : Nat → Nat → Option Nat} {sh : Nat → Nat × Nat} {nt nP nF E r : Nat} {G : Nat → Int32} (hE : E < 12) (hw : WFF G nF nt E) (h : FR K F C S I R sh nt 0 G nP E) (hr : r < nRof G E) (hs : RSh E r (nRof G E - 1) I J1 R R1) (e : J = u2 J1 (fe 0 E) 5 (nI (nRof G E - 1))) : FR K F C S J R1 sh nt 0 (g_drop1 G E r) nP E := by
  obtain ⟨tp, kl, sk, fb, nR, nN, nO, fr, to, -, -, -, -, ⟨-, b4, c4, -⟩, ⟨-, b5, c5, -⟩, ⟨-, b6, c6, -⟩, -⟩ := wfn hw
  obtain ⟨⟨x0, x1, x2, x3, x4, x5, x6, x7, x8⟩, y2, y3, y4, y5, y6⟩ := h
  have hfl := fe_lt (e := 0) (by decide) hE
  unfold dk at hfl
  have en : nRof G E = nR := by unfold nRof; rw [b4, Int.toNat_natCast]
  rw [en] at hr hs e y6
  obtain ⟨s1, s2, s3⟩ := hs
  have hn3 : nNof G E ≤ 3 := by unfold nNof; rw [b5, Int.toNat_natCast]; exact c5
  have ho8 : nOof G E ≤ 8 := by unfold nOof; rw [b6, Int.toNat_natCast]; exact c6
  generalize hX : g_drop1 G E r = X
  unfold g_drop1 at hX
  rw [b4, Int.toNat_natCast] at hX
  have xo : ∀ w, w < 84 → w ≠ 4 → ¬ (60 + 4 * r ≤ w ∧ w < 60 + 4 * (nR - 1)) → X (174 + 84 * E + w) = G (174 + 84 * E + w) := fun w h1 h2 h3 => by rw [← hX, u1_o (by omega), shf_o (by omega)]
  have xs : ∀ s k, r ≤ s → s < nR - 1 → k < 4 → X (174 + 84 * E + 60 + 4 * s + k) = G (174 + 84 * E + 60 + 4 * (s + 1) + k) := fun s k h1 h2 h3 => by
    rw [← hX, u1_o (by omega)]; unfold shf; rw [if_pos (by omega)]; congr 1
  have x4' : X (174 + 84 * E + 4) = nI (nR - 1) := by rw [← hX, u1_i]
  have xp : ∀ q, q < 84 → X q = G q := fun q hq => by rw [← hX, u1_o (by omega), shf_o (by omega)]
  have jo : ∀ k j, k < 7 → ¬ (k = 0 ∧ j = 5) → J (fe 0 E + k) j = I (fe 0 E + k) j := fun k j hk hj => by
    rw [show J (fe 0 E + k) j = J1 (fe 0 E + k) j from by
      by_cases z : k = 0
      · subst z; exact rd_nk e (fun y => hj ⟨rfl, y⟩)
      · exact rd_ne e (by omega)]
    exact s2 _ _ (fun s a b => by unfold ru; omega)
  have jr : ∀ s j, J (ru 0 E s) j = J1 (ru 0 E s) j ∧ J (ru 0 E s + 1) j = J1 (ru 0 E s + 1) j := fun s j => ⟨rd_ne e (by unfold ru; omega), rd_ne e (by unfold ru; omega)⟩
  have hJ : ∀ a j, 781 ≤ a → (sh a).1 ≠ 14 → J a j = I a j := fun a j h1 _ => (rd_ne e (by omega)).trans (s2 _ _ (fun s a b => by unfold ru fe; omega))
  have hR : ∀ a j, 781 ≤ a → R1 a j = R a j := fun a j h1 => s3 _ _ (fun s a b => by unfold ru fe; omega)
  have hr' : nRof X E = nR - 1 := by unfold nRof; rw [x4', nI_toInt (by omega), Int.toNat_natCast]
  have hn : nNof X E = nNof G E := by unfold nNof; rw [xo 5 (by omega) (by omega) (by omega)]
  refine ⟨⟨by have := jo 0 0 (by omega) (by omega); rw [show fe 0 E + 0 = fe 0 E from rfl] at this; rw [this, xo 0 (by omega) (by omega) (by omega)]; exact x0, by have := jo 0 1 (by omega) (by omega); rw [show fe 0 E + 0 = fe 0 E from rfl] at this; rw [this, xo 1 (by omega) (by omega) (by omega)]; exact x1, by have := jo 0 2 (by omega) (by omega); rw [show fe 0 E + 0 = fe 0 E from rfl] at this; rw [this, xo 2 (by omega) (by omega) (by omega)]; exact x2, by have := jo 0 3 (by omega) (by omega); rw [show fe 0 E + 0 = fe 0 E from rfl] at this; rw [this, xo 3 (by omega) (by omega) (by omega)]; exact x3, by rw [rd_eq e, x4'], by have := jo 0 8 (by omega) (by omega); rw [show fe 0 E + 0 = fe 0 E from rfl] at this; rw [this, xo 5 (by omega) (by omega) (by omega)]; exact x5, by have := jo 0 12 (by omega) (by omega); rw [show fe 0 E + 0 = fe 0 E from rfl] at this; rw [this, xo 7 (by omega) (by omega) (by omega)]; exact x6, by have := jo 0 13 (by omega) (by omega); rw [show fe 0 E + 0 = fe 0 E from rfl] at this; rw [this, xo 8 (by omega) (by omega) (by omega)]; exact x7, by have := jo 0 14 (by omega) (by omega); rw [show fe 0 E + 0 = fe 0 E from rfl] at this; rw [this, xo 9 (by omega) (by omega) (by omega)]; exact x8⟩, fun n hn2 => ?_, fun p hp => ?_, fun p hp => ?_, fun v hv => ?_, fun s hs2 => ?_⟩
  · rw [hn] at hn2
    rw [jo 2 _ (by omega) (by omega), jo 3 _ (by omega) (by omega), xo (14 + 2 * n) (by omega) (by omega) (by omega), xo (14 + 2 * n + 1) (by omega) (by omega) (by omega)]; exact y2 n hn2
  · rw [jo 4 _ (by omega) (by omega), y3 p hp]
    by_cases q : p < nP
    · rw [if_pos q, if_pos q, xp _ (by omega), ovV_c (fun w hw => xo w (by omega) (by omega) (by omega)) ho8]
    · rw [if_neg q, if_neg q]
  · rw [jo 5 _ (by omega) (by omega), xo (36 + p) (by omega) (by omega) (by omega)]; exact y4 p hp
  · rw [jo 6 _ (by omega) (by omega), xo (10 + v) (by omega) (by omega) (by omega)]; exact y5 v hv
  · rw [hr'] at hs2
    rcases Nat.lt_or_ge s r with q | q
    · have nn : ∀ t, r ≤ t → ru 0 E s ≠ ru 0 E t ∧ ru 0 E s ≠ ru 0 E t + 1 ∧ ru 0 E s + 1 ≠ ru 0 E t ∧ ru 0 E s + 1 ≠ ru 0 E t + 1 := fun t ht => by unfold ru; omega
      refine (y6 s (by omega)).c hJ hR (fun j => (jr s j).1.trans (s2 _ _ (fun t a b => ⟨(nn t a).1, (nn t a).2.1⟩))) (fun j => (jr s j).2.trans (s2 _ _ (fun t a b => ⟨(nn t a).2.2.1, (nn t a).2.2.2⟩))) (s3 _ _ (fun t a b z => (nn t a).1 z.1)) (fun k hk => ?_)
      have := xo (60 + 4 * s + k) (by omega) (by omega) (by omega)
      rwa [show 174 + 84 * E + (60 + 4 * s + k) = 174 + 84 * E + 60 + 4 * s + k by omega] at this
    · obtain ⟨a1, a2, c, m, b, a3, a4, a5⟩ := y6 (s + 1) (by omega)
      obtain ⟨u1', u2', u3'⟩ := s1 s q (by omega)
      refine ⟨?_, ?_, c, m, b, by rw [u2']; exact a3, a4.fr hJ hR, ?_⟩
      · rw [(jr s 1).1, u1', xs s 1 q (by omega) (by omega)]; exact a1
      · rw [(jr s 1).1, (jr s 0).2, (jr s 1).2, (jr s 2).2, u1', u3' 0 (by omega), u3' 1 (by omega), u3' 2 (by omega), xs s 1 q (by omega) (by omega), xs s 2 q (by omega) (by omega), xs s 3 q (by omega) (by omega)]; exact a2
      · rw [xs s 0 q (by omega) (by omega)]; exact a5
theorem c_Ru_take {d : Nat} {J : Nat → Nat → Int32} {R : Nat → Nat → Option Nat} {L : Nat → Nat → Int64} {sh : Nat → Nat × Nat} {N : Nat}  {q c P : Nat} (hq0 : sh q = (6, 0)) (hq1 : sh (q + 1) = (12, 3)) (hq2 : R q 2 = some (q + 1)) (hPs : sh P = (12, 3)) {f : Int32} (hd : 3 ≤ d) : Mt mi_Ru_take d 0 0 [.ref q, .ref c, .int f, .ref P] (J, R, L, sh, N) (fun r h2 => r = none ∧ ∃ K1 K2 R2, h2 = (K2, R2, L, sh, N) ∧ R2 = u2 R q 0 (some c) ∧ K1 = u2 J q 1 f ∧ K2 = cpyI K1 P 0 (q + 1) 0 3) := by
  refine Mt.of pn_Ru (Nat.le_of_ble_eq_true rfl) ?_
  show Run mi_Ru_take d 0 0 0 [(0, .ref q), (1, .ref c), (2, .int f), (3, .ref P)] [] (J, R, L, sh, N) _
  refine r_aload_n (x := some q) (pc2 := 1) d_Ru_take_0 rfl rfl ?_
  refine r_aload_n (x := some c) (pc2 := 2) d_Ru_take_1 rfl rfl ?_
  refine q_putR (x := some c) (pc2 := 5) d_Ru_take_2 rfl k_Ru_9 rfl hq0 (Or.inl rfl) (fun R1 hR1 => ?_)
  refine r_aload_n (x := some q) (pc2 := 6) d_Ru_take_5 rfl rfl ?_
  refine r_iload_n (pc2 := 7) d_Ru_take_6 rfl rfl ?_
  refine q_putI (pc2 := 10) d_Ru_take_7 rfl k_Ru_15 (Or.inl rfl) hq0 (Or.inl rfl) (fun I2 hI2 => ?_)
  refine r_aload_n (x := some P) (pc2 := 11) d_Ru_take_10 rfl rfl ?_
  refine r_iconst (v := nI 0) (pc2 := 12) d_Ru_take_11 rfl (by decide) ?_
  refine r_aload_n (x := some q) (pc2 := 13) d_Ru_take_12 rfl rfl ?_
  refine q_getR (x := some (q + 1)) (pc2 := 16) d_Ru_take_13 rfl k_Ru_19 rfl hq0 ((rd_nk hR1 (by decide)).trans (by first | exact hq2 | (rw [rd_nk hR1 (by decide)]; exact hq2) | (rw [rd_nk hR2 (by decide)]; exact hq2))) ?_
  refine r_iconst (v := nI 0) (pc2 := 17) d_Ru_take_16 rfl (by decide) ?_
  refine r_aload_n (x := some P) (pc2 := 18) d_Ru_take_17 rfl rfl ?_
  refine r_alen (pc2 := 19) d_Ru_take_18 rfl hPs (by decide) (by decide) ?_
  refine r_iconst (v := nI 3) (pc2 := 20) d_Ru_take_19 rfl (by decide) ?_
  refine q_calls (M2 := mi_JM_min) (pc2 := 23) d_Ru_take_20 rfl k_Ru_23 cm_JM_min cs_JM_min rfl rfl (Nat.le_of_ble_eq_true rfl) (c_JM_min (A := 3) (B := 3) (by omega) (by omega)) (d2 := d - 1) (by omega) (Nat.le_of_eq (Nat.zero_add _)) (Nat.le_of_eq (Nat.zero_add _)) ?_
  refine r_copyI (SP := 0) (DP := 0) (K := 3) (pc2 := 26) d_Ru_take_23 rfl k_Ru_29 ac_native ac_static iw_JS hPs hq1 (nI_toInt (by omega)) (nI_toInt (by omega)) (nI_toInt (by omega)) (by omega) (by omega) (by omega) (Nat.le_of_ble_eq_true rfl) ?_
  obtain ⟨K3, hK3⟩ : ∃ x, x = cpyI I2 P 0 (q + 1) 0 3 := ⟨_, rfl⟩
  rw [← hK3]
  refine Run.ret none d_Ru_take_26 rfl ?_
  exact ⟨rfl, _, _, _, rfl, hR1, hI2, hK3⟩
