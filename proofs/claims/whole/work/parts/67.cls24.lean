/-! THE CLASS: gone -/
theorem gone0_o {G : Nat → Int32} {key : Int32} {F w : Nat} (h6 : nOof G F ≤ 8) (h : w ≠ 6 ∧ ¬ (20 ≤ w ∧ w < 36)) : gone0 G key F (174 + 84 * F + w) = G (174 + 84 * F + w) := by
  unfold nOof at h6
  unfold gone0
  cases oB G F (G (174 + 84 * F + 6)).toInt.toNat key with
  | some k =>
    show g_loses G F k (174 + 84 * F + w) = _
    unfold g_loses
    rw [u1_o (by omega), shf_o (by omega)]
  | none => rfl
theorem gone1_o6 {G : Nat → Int32} {key : Int32} {p n F w : Nat} (hp : p ≤ n) (h : w < 36 ∨ 36 + n < w) : gone1 G key p n F (174 + 84 * F + w) = gone0 G key F (174 + 84 * F + w) := by
  rw [gone1_e, u1_o (by omega), shf_o (by omega)]
theorem gone1_k {G : Nat → Int32} {key : Int32} {p n F q : Nat} (h6 : nOof G F ≤ 8) (hn : n < 24) (hq : q < n) : gone1 G key p n F (174 + 84 * F + (36 + q)) = G (174 + 84 * F + (36 + (if q < p then q else q + 1))) := by
  rw [gone1_e, u1_o (by omega)]
  unfold shf
  by_cases z : q < p
  · rw [if_neg (by omega), if_pos z, gone0_o h6 (by omega)]
  · rw [if_pos (by omega), if_neg z, show 174 + 84 * F + (36 + q) + 1 = 174 + 84 * F + (36 + (q + 1)) by omega, gone0_o h6 (by omega)]
theorem ovV_gone {G : Nat → Int32} {nP nF E p : Nat} {key : Int32} (hK : WFK G nP nF) (hE : E < nF) (h6 : nOof G E ≤ 8) (hp : p < nP) (ek : G (6 + 2 * p) = key) {q : Nat} (hq : q < nP) (hqp : q ≠ p) : ovV (gone0 G key E) E (G (6 + 2 * q)) = ovV G E (G (6 + 2 * q)) := by
  have hOD : OD G E (nOof G E) := fun i j hi hj z => (hK.2.1 E hE j hj).2 i hi z
  unfold gone0
  cases ho : oB G E (G (174 + 84 * E + 6)).toInt.toNat key with
  | none => rfl
  | some k =>
    obtain ⟨a, b, -⟩ := fst1_spec (show fst1 _ _ = some k from ho)
    have := ov_del hK.1 hOD rfl h6 (k := k) (p := p) a hp ((of_decide_eq_true b).trans ek.symm) q hq
    rw [if_neg hqp] at this
    exact this
theorem gone0_6 {G : Nat → Int32} {key : Int32} {E : Nat} (h6 : nOof G E ≤ 8) : nOof (gone0 G key E) E ≤ 8 := by
  unfold gone0
  cases oB G E (G (174 + 84 * E + 6)).toInt.toNat key with
  | none => exact h6
  | some k =>
    show nOof (g_loses G E k) E ≤ 8
    have h7 := h6
    unfold nOof at h7
    unfold nOof g_loses
    rw [u1_i, nI_toInt (by omega), Int.toNat_natCast]; omega
theorem FR.gone {K F C S : Nat → Int32} {I J : Nat → Nat → Int32} {R : Nat → Nat → Option Nat} {sh : Nat → Nat × Nat} {nt nP nF E p : Nat} {G X : Nat → Int32} {key : Int32} (hE : E < nF) (hK : WFK G nP nF) (hP : nP ≤ 24) (hp : p < nP) (ek : G (6 + 2 * p) = key) (hw : WFF G nF nt E) (h : FR K F C S I R sh nt 0 G nP E) (hJ : ∀ a j, 781 ≤ a → (sh a).1 ≠ 14 → J a j = I a j) (h1 : ∀ k j, k < 19 → k ≠ 4 → k ≠ 5 → J (fe 0 E + k) j = I (fe 0 E + k) j) (h4 : ∀ j, j < 24 → J (fe 0 E + 4) j = if j < p then I (fe 0 E + 4) j else if j = 23 then -1 else I (fe 0 E + 4) (j + 1)) (h5 : ∀ j, j < 24 → J (fe 0 E + 5) j = if j < p then I (fe 0 E + 5) j else if j = 23 then -1 else I (fe 0 E + 5) (j + 1))
    (hX : ∀ w, w < 84 → X (174 + 84 * E + w) = gone1 G key p (nP - 1) E (174 + 84 * E + w)) (hXp : ∀ q, q < nP - 1 → X (6 + 2 * q) = G (6 + 2 * (if q < p then q else q + 1))) : FR K F C S J R sh nt 0 X (nP - 1) E := by
  obtain ⟨tp, kl, sk, fb, nR, nN, nO, fr, to, -, -, -, -, ⟨-, b4, c4, -⟩, ⟨-, b5, c5, -⟩, ⟨-, b6, c6, -⟩, -⟩ := wfn hw
  obtain ⟨⟨x0, x1, x2, x3, x4, x5, x6, x7, x8⟩, y2, y3, y4, y5, y6⟩ := h
  have ho8 : nOof G E ≤ 8 := by unfold nOof; rw [b6, Int.toNat_natCast]; exact c6
  have g0 : ∀ j, J (fe 0 E) j = I (fe 0 E) j := fun j => h1 0 j (by omega) (by omega) (by omega)
  have xo : ∀ w, w < 84 → w ≠ 6 → ¬ (20 ≤ w ∧ w < 60) → X (174 + 84 * E + w) = G (174 + 84 * E + w) := fun w a b c => by rw [hX w a, gone1_o6 (by omega) (by omega), gone0_o ho8 (by omega)]
  have hr : nRof X E = nRof G E := by unfold nRof; rw [xo 4 (by omega) (by omega) (by omega)]
  have hn : nNof X E = nNof G E := by unfold nNof; rw [xo 5 (by omega) (by omega) (by omega)]
  have hr6 : nRof G E ≤ 6 := by unfold nRof; rw [b4, Int.toNat_natCast]; exact c4
  have hn3 : nNof G E ≤ 3 := by unfold nNof; rw [b5, Int.toNat_natCast]; exact c5
  have hov : ∀ k, ovV X E k = ovV (gone0 G key E) E k := fun k => ovV_c (fun w hw => by rw [hX w (by omega), gone1_o6 (by omega) (by omega)]) (gone0_6 ho8)
  refine ⟨⟨by rw [g0, xo 0 (by omega) (by omega) (by omega)]; exact x0, by rw [g0, xo 1 (by omega) (by omega) (by omega)]; exact x1, by rw [g0, xo 2 (by omega) (by omega) (by omega)]; exact x2, by rw [g0, xo 3 (by omega) (by omega) (by omega)]; exact x3, by rw [g0, xo 4 (by omega) (by omega) (by omega)]; exact x4, by rw [g0, xo 5 (by omega) (by omega) (by omega)]; exact x5, by rw [g0, xo 7 (by omega) (by omega) (by omega)]; exact x6, by rw [g0, xo 8 (by omega) (by omega) (by omega)]; exact x7, by rw [g0, xo 9 (by omega) (by omega) (by omega)]; exact x8⟩, fun n hn2 => ?_, fun q hq => ?_, fun q hq => ?_, fun v hv => ?_, fun r hr2 => ?_⟩
  · rw [hn] at hn2
    rw [h1 2 _ (by omega) (by omega) (by omega), h1 3 _ (by omega) (by omega) (by omega), xo (14 + 2 * n) (by omega) (by omega) (by omega), xo (14 + 2 * n + 1) (by omega) (by omega) (by omega)]; exact y2 n hn2
  · rw [h4 q hq]
    by_cases z : q < nP - 1
    · rw [if_pos z, hXp q z, hov]
      by_cases y : q < p
      · rw [if_pos y, if_pos y, y3 q hq, if_pos (by omega), ovV_gone hK hE ho8 hp ek (by omega) (by omega)]
      · rw [if_neg y, if_neg y, if_neg (by omega), y3 (q + 1) (by omega), if_pos (by omega), ovV_gone hK hE ho8 hp ek (by omega) (by omega)]
    · rw [if_neg z, if_neg (by omega)]
      by_cases y : q = 23
      · rw [if_pos y]
      · rw [if_neg y, y3 (q + 1) (by omega), if_neg (by omega)]
  · rw [h5 q hq]
    by_cases z : q < nP - 1
    · rw [if_pos z, hX _ (by omega), gone1_k ho8 (by omega) z]
      by_cases y : q < p
      · rw [if_pos y, if_pos y, y4 q hq, if_pos (by omega)]
      · rw [if_neg y, if_neg y, if_neg (by omega), y4 (q + 1) (by omega), if_pos (by omega)]
    · rw [if_neg z, if_neg (by omega)]
      by_cases y : q = 23
      · rw [if_pos y]
      · rw [if_neg y, y4 (q + 1) (by omega), if_neg (by omega)]
  · rw [h1 6 _ (by omega) (by omega) (by omega), xo (10 + v) (by omega) (by omega) (by omega)]; exact y5 v hv
  · rw [hr] at hr2
    refine (y6 r hr2).c hJ (fun _ _ _ => rfl) (fun j => h1 (7 + 2 * r) j (by omega) (by omega) (by omega)) (fun j => by have := h1 (8 + 2 * r) j (by omega) (by omega) (by omega); rwa [show fe 0 E + (8 + 2 * r) = ru 0 E r + 1 by unfold ru; omega] at this) rfl (fun k hk => ?_)
    have := xo (60 + 4 * r + k) (by omega) (by omega) (by omega)
    rwa [show 174 + 84 * E + (60 + 4 * r + k) = 174 + 84 * E + 60 + 4 * r + k by omega] at this
theorem DR.gone {K F C S : Nat → Int32} {I J : Nat → Nat → Int32} {R : Nat → Nat → Option Nat} {sh : Nat → Nat × Nat} {nt nP nF nS p : Nat} {G : Nat → Int32} {key : Int32} (hW : WFA G nP nF nt) (hT : WFT G nF nS) (hK : WFK G nP nF) (hp : p < nP) (ek : G (6 + 2 * p) = key) (h : DR K F C S I R sh nt 0 G nP nF nS) (e : J = goneI (u2 (shR (shR I 3 p (nP - 1)) 4 p (nP - 1)) 2 2 (nI (nP - 1))) p nF) : FrD sh I J ∧ DR K F C S J R sh nt 0 (g_gone1 G nP nF key p) (nP - 1) nF nS := by
  have hF12 := hW.2.2.2.1
  have hP24 := hW.2.1
  have hS24 := hT.2.1
  obtain ⟨⟨a1, a2, a3, a4, a5, a6⟩, hq, hs, hf, hz⟩ := h
  have fl : ∀ E, E < 12 → 12 ≤ fe 0 E ∧ fe 0 E + 19 ≤ 240 := fun E hE => by unfold fe; omega
  have j0 : ∀ a j, (a < 12 ∨ 240 ≤ a) → J a j = u2 (shR (shR I 3 p (nP - 1)) 4 p (nP - 1)) 2 2 (nI (nP - 1)) a j := fun a j h => by rw [e, goneI_o (fun k hk => by have := fl k (by omega); omega)]
  have j1 : ∀ a j, a ≠ 2 → a ≠ 3 → a ≠ 4 → (∀ k, k < nF → a ≠ fe 0 k + 4 ∧ a ≠ fe 0 k + 5) → J a j = I a j := fun a j h2 h3 h4 hk => by rw [e, goneI_o hk, rd_ne rfl h2, shR_o h4, shR_o h3]
  have n6 : ∀ E, E < nF → nOof G E ≤ 8 := fun E hE => by
    obtain ⟨tp, kl, sk, fb, nR, nN, nO, fr, to, -, -, -, -, -, -, ⟨-, b6, c6, -⟩, -⟩ := wfn (hW.2.2.2.2.1 E hE)
    unfold nOof; rw [b6, Int.toNat_natCast]; exact c6
  obtain ⟨g1, g2⟩ := goneF_at (G := G) (key := key) (p := p) (n := nP - 1) (by omega) (m := nF) n6
  generalize hX : g_gone1 G nP nF key p = X
  unfold g_gone1 at hX
  have xE : ∀ E w, E < nF → w < 84 → X (174 + 84 * E + w) = gone1 G key p (nP - 1) E (174 + 84 * E + w) := fun E w hE hw => by rw [← hX, u1_o (by omega), shf_o (by omega), g1 E w hw, if_pos hE]
  have x0 : ∀ j, j < 174 → j ≠ 0 → ¬ (6 + 2 * p ≤ j ∧ j < 6 + 2 * (nP - 1)) → X j = G j := fun j a b c => by rw [← hX, u1_o b, shf_o (by omega), g2 j a]
  have xp : ∀ q c, c < 2 → q < nP - 1 → X (6 + 2 * q + c) = G (6 + 2 * (if q < p then q else q + 1) + c) := fun q c hc hq => by
    by_cases y : q < p
    · rw [if_pos y]; exact x0 _ (by omega) (by omega) (by omega)
    · rw [if_neg y, ← hX, u1_o (by omega)]
      unfold shf
      rw [if_pos (by omega), g2 _ (by omega)]; congr 1; omega
  refine ⟨fun a j _ z => j1 a j (by omega) (by omega) (by omega) (fun k hk => by have := fl k (by omega); omega), ⟨?_, ?_, ?_, ?_, ?_, ?_⟩, fun q hq2 => ⟨?_, ?_⟩, fun i hi => ?_, fun E hE => ?_, fun E h1 h2 => ?_⟩
  · show J 2 2 = _
    rw [j0 2 2 (by decide), rd_eq rfl]
  · show J 1 2 = _
    rw [j1 1 2 (by decide) (by decide) (by decide) (fun k hk => by have := fl k (by omega); omega)]; exact a2
  · show J 1 4 = _
    rw [j1 1 4 (by decide) (by decide) (by decide) (fun k hk => by have := fl k (by omega); omega), x0 3 (by omega) (by omega) (by omega)]; exact a3
  · show J 1 5 = _
    rw [j1 1 5 (by decide) (by decide) (by decide) (fun k hk => by have := fl k (by omega); omega), x0 5 (by omega) (by omega) (by omega)]; exact a4
  · show J 1 6 = _
    rw [j1 1 6 (by decide) (by decide) (by decide) (fun k hk => by have := fl k (by omega); omega), x0 4 (by omega) (by omega) (by omega)]; exact a5
  · show J 6 5 = _
    rw [j1 6 5 (by decide) (by decide) (by decide) (fun k hk => by have := fl k (by omega); omega)]; exact a6
  · show J 3 q = _
    rw [j0 3 q (by decide), rd_ne rfl (by decide), shR_o (by decide)]
    have := xp q 0 (by decide) hq2
    rw [Nat.add_zero, Nat.add_zero] at this
    rw [this]
    by_cases y : q < p
    · rw [if_pos y, shR_n (Or.inl y)]; exact (hq q (by omega)).1
    · rw [if_neg y, shR_p (by omega)]; exact (hq (q + 1) (by omega)).1
  · show J 4 q = _
    rw [j0 4 q (by decide), rd_ne rfl (by decide), xp q 1 (by decide) hq2]
    by_cases y : q < p
    · rw [if_pos y, shR_n (Or.inl y), shR_o (by decide)]; exact (hq q (by omega)).2
    · rw [if_neg y, shR_p (by omega), shR_o (by decide)]; exact (hq (q + 1) (by omega)).2
  · have := hs i hi
    have js : ∀ k, 6 ≤ k → k < 12 → ∀ j, J k j = I k j := fun k h1 h2 j => j1 k j (by omega) (by omega) (by omega) (fun k hk => by have := fl k (by omega); omega)
    rw [show dk 0 + 6 = 7 from rfl, show dk 0 + 7 = 8 from rfl, show dk 0 + 8 = 9 from rfl, show dk 0 + 9 = 10 from rfl, show dk 0 + 10 = 11 from rfl, js 7 (by decide) (by decide), js 8 (by decide) (by decide), js 9 (by decide) (by decide), js 10 (by decide) (by decide), js 11 (by decide) (by decide), x0 _ (by omega) (by omega) (by omega), x0 _ (by omega) (by omega) (by omega), x0 _ (by omega) (by omega) (by omega), x0 _ (by omega) (by omega) (by omega), x0 _ (by omega) (by omega) (by omega)]; exact this
  · have hfE := fl E (by omega)
    refine (hf E hE).gone hE hK hP24 hp ek (hW.2.2.2.2.1 E hE) (fun a j h1 _ => j1 a j (by omega) (by omega) (by omega) (fun k hk => by have := fl k (by omega); omega)) (fun k j hk h4 h5 => j1 _ j (by omega) (by omega) (by omega) (fun m hm => by unfold fe; omega)) (fun j hj => ?_) (fun j hj => ?_) (fun w hw => xE E w hE hw) (fun q hq3 => by have := xp q 0 (by decide) hq3; rwa [Nat.add_zero, Nat.add_zero] at this)
    · have k1 : ∀ j, u2 (shR (shR I 3 p (nP - 1)) 4 p (nP - 1)) 2 2 (nI (nP - 1)) (fe 0 E + 4) j = I (fe 0 E + 4) j := fun j => by rw [rd_ne rfl (by omega), shR_o (by omega), shR_o (by omega)]
      rw [e, goneI_4 (by omega) hj hE, k1, k1]
    · have k1 : ∀ j, u2 (shR (shR I 3 p (nP - 1)) 4 p (nP - 1)) 2 2 (nI (nP - 1)) (fe 0 E + 5) j = I (fe 0 E + 5) j := fun j => by rw [rd_ne rfl (by omega), shR_o (by omega), shR_o (by omega)]
      rw [e, goneI_5 (by omega) hj hE, k1, k1]
  · have hfE := fl E h2
    exact (hz E h1 h2).c (fun k j hk => j1 _ j (by omega) (by omega) (by omega) (fun m hm => by unfold fe; omega))
theorem c_X_gone {d : Nat} {I : Nat → Nat → Int32} {R : Nat → Nat → Option Nat} {L : Nat → Nat → Int64} {sh : Nat → Nat × Nat} {N : Nat} (hS : ShOK sh) (hR : RfOK R) {tK tF tC tS : Nat → Int32} {nt : Nat} (hV : TV tK tF tC nt) (hV2 : TV2 tK tF tC tS nt) (hnt6 : nt ≤ 1000000) {G : Nat → Int32} {nP nF nS : Nat} (hW : WFA G nP nF nt) (hWT : WFT G nF nS) (hKW : WFK G nP nF) {rk : Nat → Nat} (hrk : RK G nF rk) (hD : DR tK tF tC tS I R sh nt 0 G nP nF nS) {key : Int32} (hd : 90 ≤ d) : Mt mi_X_gone d 0 0 [.ref 0, .int key] (I, R, L, sh, N) (XD I R L sh N (o_gone G nP key) (PD tK tF tC tS I R sh nt (g_gone G nP nF key) (nP - 1) nF nS)) := by
  obtain ⟨hPc, hP24, hFc, hF12, hWF, hWP⟩ := id hW
  have hS24 := hWT.2.1
  refine Mt.of pn_X (Nat.le_of_ble_eq_true rfl) ?_
  show Run mi_X_gone d 0 0 0 [(0, .ref 0), (1, .int key)] [] (I, R, L, sh, N) _
  refine r_aload_n (x := some 0) (pc2 := 1) d_X_gone_0 rfl rfl ?_
  refine q_getR (x := some 1) (pc2 := 4) d_X_gone_1 rfl k_X_12 rfl (sh_0 hS) (rf_0_0 hR) ?_
  refine q_getR (x := some 2) (pc2 := 7) d_X_gone_4 rfl k_X_179 rfl (sh_1 hS) (rf_1_0 hR) ?_
  refine r_iload_n (pc2 := 8) d_X_gone_7 rfl rfl ?_
  refine r_i2l (pc2 := 9) d_X_gone_8 rfl ?_
  refine q_callv (M2 := mi_Pe_find) (pc2 := 12) d_X_gone_9 rfl k_X_183 cm_Pe_find cv_Pe_find (sh_2 hS) (by decide) rfl rfl rfl (Nat.le_of_ble_eq_true rfl) (c_Pe_find (x := key.toInt64) hS hR hV hV2 hnt6 hW hWT hKW hrk hD) (d2 := d - 1) (by omega) (Nat.le_of_eq (Nat.zero_add _)) (Nat.le_of_eq (Nat.zero_add _)) ?_
  refine q_top (y := vo (pB G nP key)) (by rw [fL_i]) ?_
  cases hopkkey : pB G nP key with
  | none =>
    refine r_istore_n (pc2 := 13) d_X_gone_12 rfl rfl (Nat.le_of_ble_eq_true rfl) ?_
    refine r_iload_n (pc2 := 14) d_X_gone_13 rfl rfl ?_
    refine r_iconst (v := (-1 : Int32)) (pc2 := 15) d_X_gone_14 rfl (by decide) ?_
    refine q_icmp_ne (tgt := 25) (A := (-1 : Int)) (B := (-1 : Int)) (pc2 := 18) d_X_gone_15 rfl rfl (by decide) (by decide) (fun c1 => ?_) (fun c1 => ?_)
    · exfalso; omega
    refine r_aload_n (x := some 0) (pc2 := 19) d_X_gone_18 rfl rfl ?_
    refine r_bipush (v := (-32 : Int32)) (pc2 := 21) d_X_gone_19 rfl (by decide) ?_
    refine q_callv (M2 := mi_X_refuse) (pc2 := 24) d_X_gone_21 rfl k_X_75 cm_X_refuse cv_X_refuse (sh_0 hS) (by decide) rfl rfl rfl (Nat.le_of_ble_eq_true rfl) (c_X_refuse_0 (J := I) hS hR) (d2 := d - 1) (by omega) (Nat.le_of_eq (Nat.zero_add _)) (Nat.le_of_eq (Nat.zero_add _)) ?_
    obtain ⟨I2, hI2⟩ : ∃ x, x = u2 I 744 0 (I 744 0 + nI 1) := ⟨_, rfl⟩
    rw [← hI2]
    refine Run.ret (some (.int ((-32 : Int32)))) d_X_gone_24 ⟨_, rfl⟩ ?_
    exact XD.bad hS 0 (by (unfold o_gone); (try dsimp only); (try simp only [Int.toNat_natCast]); (repeat (first | rw [if_pos (by omega)] | rw [if_neg (by omega)] | (rw [hopkkey]; try dsimp only))); (try rfl); (all_goals first | rfl | (congr 2 <;> omega) | ((repeat' split) <;> first | rfl | (exfalso; omega) | (congr 2 <;> omega) | skip))) (by decide) FrXR.rf FrX.rf hI2
  | some pkkey =>
    obtain ⟨hppkkey, hqpkkey, -⟩ := fst1_spec (show fst1 _ _ = some pkkey from hopkkey)
    refine r_istore_n (pc2 := 13) d_X_gone_12 rfl rfl (Nat.le_of_ble_eq_true rfl) ?_
    refine r_iload_n (pc2 := 14) d_X_gone_13 rfl rfl ?_
    refine r_iconst (v := (-1 : Int32)) (pc2 := 15) d_X_gone_14 rfl (by decide) ?_
    refine q_icmp_ne (tgt := 25) (A := ((pkkey : Nat) : Int)) (B := (-1 : Int)) (pc2 := 18) d_X_gone_15 rfl rfl (nI_toInt (by omega)) (by decide) (fun c3 => ?_) (fun c3 => ?_)
    rotate_left
    · exfalso; omega
    refine r_aload_n (x := some 0) (pc2 := 26) d_X_gone_25 rfl rfl ?_
    refine q_getR (x := some 1) (pc2 := 29) d_X_gone_26 rfl k_X_12 rfl (sh_0 hS) (rf_0_0 hR) ?_
    refine r_iload_n (pc2 := 30) d_X_gone_29 rfl rfl ?_
    refine r_callv (M2 := mi_De_removePerson) (pc2 := 33) d_X_gone_30 rfl k_X_198 cm_De_removePerson cv_De_removePerson (sh_1 hS) (by decide) rfl rfl rfl (Nat.le_of_ble_eq_true rfl) (c_De_removePerson (J := I) hS hR (nP := nP) (nF := nF) (p := pkkey) hD.1.1 hD.1.2.1 (by omega) (by omega) (by omega) (d := d - 1) (by omega)) (d2 := d - 1) (by omega) (Nat.le_of_eq (Nat.zero_add _)) (Nat.le_of_eq (Nat.zero_add _)) (fun r2 h2 hq2 => ?_)
    obtain ⟨rfl, K, rfl, hKg⟩ := hq2
    change Run _ _ _ _ _ _ [] _ _
    have hdg := DR.gone hW hWT hKW (p := pkkey) hppkkey (of_decide_eq_true hqpkkey) hD hKg
    refine r_aload_n (x := some 0) (pc2 := 34) d_X_gone_33 rfl rfl ?_
    refine q_getR (x := some 1) (pc2 := 37) d_X_gone_34 rfl k_X_12 rfl (sh_0 hS) (rf_0_0 hR) ?_
    refine q_getR (x := some 2) (pc2 := 40) d_X_gone_37 rfl k_X_179 rfl (sh_1 hS) (rf_1_0 hR) ?_
    refine q_getI (x := nI (nP - 1)) (pc2 := 43) d_X_gone_40 rfl k_X_189 (by decide) (sh_2 hS) hdg.2.1.1 ?_
    refine Run.ret (some (.int (nI (nP - 1)))) d_X_gone_43 ⟨_, rfl⟩ ?_
    exact XD.val (by (unfold o_gone); (try dsimp only); (try simp only [Int.toNat_natCast]); (repeat (first | rw [if_pos (by omega)] | rw [if_neg (by omega)] | (rw [hopkkey]; try dsimp only))); (try rfl); (all_goals first | rfl | (congr 2 <;> omega) | ((repeat' split) <;> first | rfl | (exfalso; omega) | (congr 2 <;> omega) | skip))) ⟨hdg.1, FrRD.rf, by (unfold g_gone); (try dsimp only); (try simp only [Int.toNat_natCast]); (repeat (first | rw [if_pos (by omega)] | rw [if_neg (by omega)] | (rw [hopkkey]; try dsimp only))); exact hdg.2⟩
