/-! THE CLASS: person -/
/-- a feature where a person is new -/
theorem FR.new {K F C S : Nat → Int32} {I J : Nat → Nat → Int32} {R R' : Nat → Nat → Option Nat} {sh : Nat → Nat × Nat} {nt d nP nF E : Nat} {G G' : Nat → Int32} {key : Int32} (hw : WFF G nF nt E) (hn24 : nP < 24) (h : FR K F C S I R sh nt d G nP E) (hJ : ∀ a j, 781 ≤ a → (sh a).1 ≠ 14 → J a j = I a j) (hR : ∀ a j, 781 ≤ a → R' a j = R a j) (h1 : ∀ k j, k < 19 → J (fe d E + k) j = I (fe d E + k) j) (h1R : ∀ k j, k < 19 → R' (fe d E + k) j = R (fe d E + k) j) (hG : ∀ w, w < 84 → w ≠ 36 + nP → G' (174 + 84 * E + w) = G (174 + 84 * E + w)) (hG0 : G' (174 + 84 * E + (36 + nP)) = nI 0) (hGp : ∀ p, p < nP → G' (6 + 2 * p) = G (6 + 2 * p)) (hGn : G' (6 + 2 * nP) = key) (hno : ∀ k, k < nOof G E → G (174 + 84 * E + (20 + 2 * k)) ≠ key) : FR K F C S J R' sh nt d G' (nP + 1) E := by
  obtain ⟨tp, kl, sk, fb, nR, nN, nO, fr, to, -, -, -, -, ⟨-, b4, c4, -⟩, ⟨-, b5, c5, -⟩, ⟨-, b6, c6, -⟩, -⟩ := wfn hw
  obtain ⟨⟨x0, x1, x2, x3, x4, x5, x6, x7, x8⟩, y2, y3, y4, y5, y6⟩ := h
  have g0 : ∀ j, J (fe d E) j = I (fe d E) j := fun j => h1 0 j (by omega)
  have hr : nRof G' E = nRof G E := by unfold nRof; rw [hG 4 (by omega) (by omega)]
  have hn : nNof G' E = nNof G E := by unfold nNof; rw [hG 5 (by omega) (by omega)]
  have ho : nOof G' E = nOof G E := by unfold nOof; rw [hG 6 (by omega) (by omega)]
  have hr6 : nRof G E ≤ 6 := by unfold nRof; rw [b4, Int.toNat_natCast]; exact c4
  have hn3 : nNof G E ≤ 3 := by unfold nNof; rw [b5, Int.toNat_natCast]; exact c5
  have ho8 : nOof G E ≤ 8 := by unfold nOof; rw [b6, Int.toNat_natCast]; exact c6
  refine ⟨⟨by rw [g0, hG 0 (by omega) (by omega)]; exact x0, by rw [g0, hG 1 (by omega) (by omega)]; exact x1, by rw [g0, hG 2 (by omega) (by omega)]; exact x2, by rw [g0, hG 3 (by omega) (by omega)]; exact x3, by rw [g0, hG 4 (by omega) (by omega)]; exact x4, by rw [g0, hG 5 (by omega) (by omega)]; exact x5, by rw [g0, hG 7 (by omega) (by omega)]; exact x6, by rw [g0, hG 8 (by omega) (by omega)]; exact x7, by rw [g0, hG 9 (by omega) (by omega)]; exact x8⟩, fun n hn2 => ?_, fun p hp => ?_, fun p hp => ?_, fun v hv => ?_, fun r hr2 => ?_⟩
  · rw [hn] at hn2
    rw [h1 2 _ (by omega), h1 3 _ (by omega), hG (14 + 2 * n) (by omega) (by omega), hG (14 + 2 * n + 1) (by omega) (by omega)]; exact y2 n hn2
  · rw [h1 4 _ (by omega), y3 p hp]
    by_cases q : p < nP
    · rw [if_pos q, if_pos (by omega), hGp p q, ovV_c (fun w hw => hG w (by omega) (by omega)) ho8]
    · rw [if_neg q]
      by_cases z : p = nP
      · rw [if_pos (by omega), z, hGn]
        exact (ovV_no ho (fun k hk => by rw [hG (20 + 2 * k) (by omega) (by omega)]; exact hno k hk)).symm
      · rw [if_neg (by omega)]
  · rw [h1 5 _ (by omega), y4 p hp]
    by_cases q : p < nP
    · rw [if_pos q, if_pos (by omega), hG (36 + p) (by omega) (by omega)]
    · rw [if_neg q]
      by_cases z : p = nP
      · rw [if_pos (by omega), z, hG0]; rfl
      · rw [if_neg (by omega)]
  · rw [h1 6 _ (by omega), hG (10 + v) (by omega) (by omega)]; exact y5 v hv
  · rw [hr] at hr2
    refine (y6 r hr2).c hJ hR (fun j => h1 (7 + 2 * r) j (by omega)) (fun j => by have := h1 (8 + 2 * r) j (by omega); rwa [show fe d E + (8 + 2 * r) = ru d E r + 1 by unfold ru; omega] at this) (h1R (7 + 2 * r) 0 (by omega)) (fun k hk => ?_)
    have := hG (60 + 4 * r + k) (by omega) (by omega)
    rwa [show 174 + 84 * E + (60 + 4 * r + k) = 174 + 84 * E + 60 + 4 * r + k by omega] at this
theorem DR.attr {K F C S : Nat → Int32} {I J : Nat → Nat → Int32} {R : Nat → Nat → Option Nat} {sh : Nat → Nat × Nat} {nt nP nF nS p : Nat} {G : Nat → Int32} {v : Int32} (hW : WFA G nP nF nt) (hp : p < nP) (h : DR K F C S I R sh nt 0 G nP nF nS) (e : J = u2 I 4 p v) : DR K F C S J R sh nt 0 (u1 G (6 + 2 * p + 1) v) nP nF nS := by
  have hP24 := hW.2.1
  have hF12 := hW.2.2.2.1
  obtain ⟨⟨a1, a2, a3, a4, a5, a6⟩, hq, hs, hf, hz⟩ := h
  have fl : ∀ E, E < 12 → 12 ≤ fe 0 E := fun E hE => by have := fe_lt (e := 0) (by decide) hE; unfold dk at this; omega
  refine ⟨⟨by rw [rd_ne e (by decide)]; exact a1, by rw [rd_ne e (by decide)]; exact a2, by rw [rd_ne e (by decide), u1_o (by omega)]; exact a3, by rw [rd_ne e (by decide), u1_o (by omega)]; exact a4, by rw [rd_ne e (by decide), u1_o (by omega)]; exact a5, by rw [rd_ne e (by decide)]; exact a6⟩, fun q hq2 => ⟨?_, ?_⟩, fun i hi => ?_, fun E hE => ?_, fun E h1 h2 => ?_⟩
  · rw [rd_ne e (by decide), u1_o (by omega)]; exact (hq q hq2).1
  · by_cases y : q = p
    · subst y; rw [show dk 0 + 3 = 4 from rfl, rd_eq e, u1_i]
    · rw [show dk 0 + 3 = 4 from rfl, rd_nk e y, u1_o (by omega)]; exact (hq q hq2).2
  · have := hs i hi
    rw [rd_ne e (by decide), rd_ne e (by decide), rd_ne e (by decide), rd_ne e (by decide), rd_ne e (by decide), u1_o (by omega), u1_o (by omega), u1_o (by omega), u1_o (by omega), u1_o (by omega)]; exact this
  · have := fl E (by omega)
    exact (hf E hE).c (hW.2.2.2.2.1 E hE) (fun a j h1 _ => rd_ne e (by omega)) (fun _ _ _ => rfl) (fun k j hk => rd_ne e (by omega)) (fun _ _ _ => rfl) (fun w hw => u1_o (by omega)) (fun p hp => u1_o (by omega))
  · have := fl E h2
    exact (hz E h1 h2).c (fun k j hk => rd_ne e (by omega))
theorem kz_o {G : Nat → Int32} {p m j : Nat} (h : j < 174 ∨ (j - 174) % 84 ≠ 36 + p) : kz G p m j = G j := by unfold kz; rw [if_neg (by omega)]
theorem kz_i {G : Nat → Int32} {p m E : Nat} (hE : E < m) (hp : p < 24) : kz G p m (174 + 84 * E + (36 + p)) = nI 0 := by unfold kz; rw [if_pos (by omega)]
theorem DR.person {K F C S : Nat → Int32} {I J1 J2 J : Nat → Nat → Int32} {R : Nat → Nat → Option Nat} {sh : Nat → Nat × Nat} {nt nP nF nS : Nat} {G : Nat → Int32} {key att : Int32} (hW : WFA G nP nF nt) (hK : WFK G nP nF) (hS : nS ≤ 24) (hn24 : nP < 24) (hno : ∀ p, p < nP → G (6 + 2 * p) ≠ key) (h : DR K F C S I R sh nt 0 G nP nF nS) (e1 : J1 = u2 I 3 nP key) (e2 : J2 = u2 J1 4 nP att) (e3 : J = u2 J2 2 2 (nI (nP + 1))) : DR K F C S J R sh nt 0 (u1 (kz (u1 (u1 G 0 (nI (nP + 1))) (6 + 2 * nP) key) nP 12) (6 + 2 * nP + 1) att) (nP + 1) nF nS := by
  have hF12 := hW.2.2.2.1
  obtain ⟨⟨a1, a2, a3, a4, a5, a6⟩, hq, hs, hf, hz⟩ := h
  have fl : ∀ E, E < 12 → 12 ≤ fe 0 E := fun E hE => by have := fe_lt (e := 0) (by decide) hE; unfold dk at this; omega
  generalize hX : u1 (kz (u1 (u1 G 0 (nI (nP + 1))) (6 + 2 * nP) key) nP 12) (6 + 2 * nP + 1) att = X
  have xo : ∀ j, j ≠ 0 → j ≠ 6 + 2 * nP → j ≠ 6 + 2 * nP + 1 → (j < 174 ∨ (j - 174) % 84 ≠ 36 + nP) → X j = G j := fun j h1 h2 h3 h4 => by rw [← hX, u1_o h3, kz_o h4, u1_o h2, u1_o h1]
  have xk : X (6 + 2 * nP) = key := by rw [← hX, u1_o (by omega), kz_o (by omega), u1_i]
  have xa : X (6 + 2 * nP + 1) = att := by rw [← hX, u1_i]
  have hj : ∀ a j, a ≠ 2 → a ≠ 3 → a ≠ 4 → J a j = I a j := fun a j h1 h2 h3 => (rd_ne e3 h1).trans ((rd_ne e2 h3).trans (rd_ne e1 h2))
  refine ⟨⟨rd_eq e3, (hj 1 2 (by decide) (by decide) (by decide)).trans a2, ?_, ?_, ?_, (hj 6 5 (by decide) (by decide) (by decide)).trans a6⟩, fun q hq2 => ⟨?_, ?_⟩, fun i hi => ?_, fun E hE => ?_, fun E h1 h2 => ?_⟩
  · rw [xo 3 (by omega) (by omega) (by omega) (by omega)]; exact (hj 1 4 (by decide) (by decide) (by decide)).trans a3
  · rw [xo 5 (by omega) (by omega) (by omega) (by omega)]; exact (hj 1 5 (by decide) (by decide) (by decide)).trans a4
  · rw [xo 4 (by omega) (by omega) (by omega) (by omega)]; exact (hj 1 6 (by decide) (by decide) (by decide)).trans a5
  · show J 3 q = _
    rw [rd_ne e3 (by decide), rd_ne e2 (by decide)]
    by_cases y : q = nP
    · subst y; rw [rd_eq e1, xk]
    · rw [rd_nk e1 y, xo _ (by omega) (by omega) (by omega) (by omega)]; exact (hq q (by omega)).1
  · show J 4 q = _
    rw [rd_ne e3 (by decide)]
    by_cases y : q = nP
    · subst y; rw [rd_eq e2, xa]
    · rw [rd_nk e2 y, rd_ne e1 (by decide), xo _ (by omega) (by omega) (by omega) (by omega)]; exact (hq q (by omega)).2
  · have := hs i hi
    rw [hj _ _ (by decide) (by decide) (by decide), hj _ _ (by decide) (by decide) (by decide), hj _ _ (by decide) (by decide) (by decide), hj _ _ (by decide) (by decide) (by decide), hj _ _ (by decide) (by decide) (by decide), xo _ (by omega) (by omega) (by omega) (by omega), xo _ (by omega) (by omega) (by omega) (by omega), xo _ (by omega) (by omega) (by omega) (by omega), xo _ (by omega) (by omega) (by omega) (by omega), xo _ (by omega) (by omega) (by omega) (by omega)]; exact this
  · have := fl E (by omega)
    exact (hf E hE).new (hW.2.2.2.2.1 E hE) hn24 (fun a j h1 _ => hj a j (by omega) (by omega) (by omega)) (fun _ _ _ => rfl) (fun k j hk => hj _ j (by omega) (by omega) (by omega)) (fun _ _ _ => rfl) (fun w hw hw2 => xo _ (by omega) (by omega) (by omega) (by omega)) (by rw [← hX, u1_o (by omega)]; exact kz_i (by omega) hn24) (fun p hp => xo _ (by omega) (by omega) (by omega) (by omega)) xk (fun k hk => by
      obtain ⟨⟨x, hx, ex⟩, -⟩ := hK.2.1 E hE k hk
      rw [← ex]; exact hno x hx)
  · have := fl E h2
    exact (hz E h1 h2).c (fun k j hk => hj _ j (by omega) (by omega) (by omega))
theorem c_Pe_add {d : Nat} {J : Nat → Nat → Int32} {R : Nat → Nat → Option Nat} {L : Nat → Nat → Int64} {sh : Nat → Nat × Nat} {N : Nat} (hS : ShOK sh) (hR : RfOK R) {nP : Nat} (hn : J 2 2 = nI nP) (hn24 : nP < 24) {k a : Int32} : Mt mi_Pe_add d 0 0 [.ref 2, .int k, .int a] (J, R, L, sh, N) (fun r h2 => r = none ∧ ∃ K1 K2 K3, h2 = (K3, R, L, sh, N) ∧ K1 = u2 J 3 nP k ∧ K2 = u2 K1 4 nP a ∧ K3 = u2 K2 2 2 (nI (nP + 1))) := by
  refine Mt.of pn_Pe (Nat.le_of_ble_eq_true rfl) ?_
  show Run mi_Pe_add d 0 0 0 [(0, .ref 2), (1, .int k), (2, .int a)] [] (J, R, L, sh, N) _
  refine r_aload_n (x := some 2) (pc2 := 1) d_Pe_add_0 rfl rfl ?_
  refine q_getI (x := nI nP) (pc2 := 4) d_Pe_add_1 rfl k_Pe_18 (by decide) (sh_2 hS) hn ?_
  refine r_bipush (v := nI 24) (pc2 := 6) d_Pe_add_4 rfl (by decide) ?_
  refine q_icmp_lt (tgt := 10) (A := ((nP : Nat) : Int)) (B := (24 : Int)) (pc2 := 9) d_Pe_add_6 rfl rfl (nI_toInt (by omega)) (nI_toInt (by omega)) (fun c1 => ?_) (fun c1 => ?_)
  · refine r_aload_n (x := some 2) (pc2 := 11) d_Pe_add_10 rfl rfl ?_
    refine q_getR (x := some 3) (pc2 := 14) d_Pe_add_11 rfl k_Pe_9 rfl (sh_2 hS) (rf_2_0 hR) ?_
    refine r_aload_n (x := some 2) (pc2 := 15) d_Pe_add_14 rfl rfl ?_
    refine q_getI (x := nI nP) (pc2 := 18) d_Pe_add_15 rfl k_Pe_18 (by decide) (sh_2 hS) hn ?_
    refine r_iload_n (pc2 := 19) d_Pe_add_18 rfl rfl ?_
    refine q_iastore (q := nP) (pc2 := 20) d_Pe_add_19 rfl (sh_3 hS) (nI_toInt (by omega)) (by omega) (fun I2 hI2 => ?_)
    refine r_aload_n (x := some 2) (pc2 := 21) d_Pe_add_20 rfl rfl ?_
    refine q_getR (x := some 4) (pc2 := 24) d_Pe_add_21 rfl k_Pe_15 rfl (sh_2 hS) (rf_2_1 hR) ?_
    refine r_aload_n (x := some 2) (pc2 := 25) d_Pe_add_24 rfl rfl ?_
    refine q_getI (x := nI nP) (pc2 := 28) d_Pe_add_25 rfl k_Pe_18 (by decide) (sh_2 hS) ((rd_ne hI2 (by decide)).trans (hn)) ?_
    refine r_iload_n (pc2 := 29) d_Pe_add_28 rfl rfl ?_
    refine q_iastore (q := nP) (pc2 := 30) d_Pe_add_29 rfl (sh_4 hS) (nI_toInt (by omega)) (by omega) (fun I3 hI3 => ?_)
    refine r_aload_n (x := some 2) (pc2 := 31) d_Pe_add_30 rfl rfl ?_
    refine r_dup (pc2 := 32) d_Pe_add_31 rfl rfl ?_
    refine q_getI (x := nI nP) (pc2 := 35) d_Pe_add_32 rfl k_Pe_18 (by decide) (sh_2 hS) ((rd_ne hI3 (by decide)).trans ((rd_ne hI2 (by decide)).trans (hn))) ?_
    refine r_iconst (v := nI 1) (pc2 := 36) d_Pe_add_35 rfl (by decide) ?_
    refine q_iaddN (pc2 := 37) d_Pe_add_36 rfl ?_
    refine q_putI (pc2 := 40) d_Pe_add_37 rfl k_Pe_18 (Or.inl rfl) (sh_2 hS) (Or.inl rfl) (fun I4 hI4 => ?_)
    refine Run.ret none d_Pe_add_40 rfl ?_
    first | (exfalso; omega) | exact ⟨rfl, _, _, _, rfl, hI2, hI3, hI4⟩
  · refine Run.ret none d_Pe_add_9 rfl ?_
    exfalso; omega
def nPs (G : Nat → Int32) (nP : Nat) (key : Int32) : Nat := match pB G nP key with
  | some _ => nP
  | none => nP + 1
theorem c_X_person {d : Nat} {I : Nat → Nat → Int32} {R : Nat → Nat → Option Nat} {L : Nat → Nat → Int64} {sh : Nat → Nat × Nat} {N : Nat} (hS : ShOK sh) (hR : RfOK R) {tK tF tC tS : Nat → Int32} {nt : Nat} (hV : TV tK tF tC nt) (hV2 : TV2 tK tF tC tS nt) (hnt6 : nt ≤ 1000000) {G : Nat → Int32} {nP nF nS : Nat} (hW : WFA G nP nF nt) (hWT : WFT G nF nS) (hKW : WFK G nP nF) {rk : Nat → Nat} (hrk : RK G nF rk) (hD : DR tK tF tC tS I R sh nt 0 G nP nF nS) {key : Int32} {att : Int32} (hd : 90 ≤ d) : Mt mi_X_person d 0 0 [.ref 0, .int key, .int att] (I, R, L, sh, N) (XD I R L sh N (o_person G nP key att) (PD tK tF tC tS I R sh nt (g_person G nP key att) (nPs G nP key) nF nS)) := by
  obtain ⟨hPc, hP24, hFc, hF12, hWF, hWP⟩ := id hW
  have hS24 := hWT.2.1
  refine Mt.of pn_X (Nat.le_of_ble_eq_true rfl) ?_
  show Run mi_X_person d 0 0 0 [(0, .ref 0), (1, .int key), (2, .int att)] [] (I, R, L, sh, N) _
  refine r_aload_n (x := some 0) (pc2 := 1) d_X_person_0 rfl rfl ?_
  refine r_iload_n (pc2 := 2) d_X_person_1 rfl rfl ?_
  refine q_callv (M2 := mi_X_isKey) (pc2 := 5) d_X_person_2 rfl k_X_176 cm_X_isKey cv_X_isKey (sh_0 hS) (by decide) rfl rfl rfl (Nat.le_of_ble_eq_true rfl) (c_X_isKey (s := key)) (d2 := d - 1) (by omega) (Nat.le_of_eq (Nat.zero_add _)) (Nat.le_of_eq (Nat.zero_add _)) ?_
  refine q_bif_eq (tgt := 19) (pc2 := 8) d_X_person_5 rfl rfl (fun c1 => ?_) (fun c1 => ?_)
  · refine r_aload_n (x := some 0) (pc2 := 20) d_X_person_19 rfl rfl ?_
    refine r_bipush (v := (-32 : Int32)) (pc2 := 22) d_X_person_20 rfl (by decide) ?_
    refine q_callv (M2 := mi_X_refuse) (pc2 := 25) d_X_person_22 rfl k_X_75 cm_X_refuse cv_X_refuse (sh_0 hS) (by decide) rfl rfl rfl (Nat.le_of_ble_eq_true rfl) (c_X_refuse_0 (J := I) hS hR) (d2 := d - 1) (by omega) (Nat.le_of_eq (Nat.zero_add _)) (Nat.le_of_eq (Nat.zero_add _)) ?_
    obtain ⟨I2, hI2⟩ : ∃ x, x = u2 I 744 0 (I 744 0 + nI 1) := ⟨_, rfl⟩
    rw [← hI2]
    refine Run.ret (some (.int ((-32 : Int32)))) d_X_person_25 ⟨_, rfl⟩ ?_
    first | (exfalso; omega) | exact XD.bad hS 0 (by (unfold o_person); (try dsimp only); (try simp only [Int.toNat_natCast]); (repeat (first | rw [if_pos (by omega)] | rw [if_neg (by omega)])); (try rfl); (all_goals first | rfl | (congr 2 <;> omega) | ((repeat' split) <;> first | rfl | (exfalso; omega) | (congr 2 <;> omega) | skip))) (by decide) FrXR.rf FrX.rf hI2
  · obtain ⟨keyN, hkeyN, gkeyN, rfl, ekeyN⟩ := nat_of' (Int.le_refl 0) c1
    refine r_iload_n (pc2 := 9) d_X_person_8 rfl rfl ?_
    refine q_if_lt (tgt := 19) (A := att.toInt) (pc2 := 12) d_X_person_9 rfl rfl (rfl) (fun c3 => ?_) (fun c3 => ?_)
    · refine r_aload_n (x := some 0) (pc2 := 20) d_X_person_19 rfl rfl ?_
      refine r_bipush (v := (-32 : Int32)) (pc2 := 22) d_X_person_20 rfl (by decide) ?_
      refine q_callv (M2 := mi_X_refuse) (pc2 := 25) d_X_person_22 rfl k_X_75 cm_X_refuse cv_X_refuse (sh_0 hS) (by decide) rfl rfl rfl (Nat.le_of_ble_eq_true rfl) (c_X_refuse_0 (J := I) hS hR) (d2 := d - 1) (by omega) (Nat.le_of_eq (Nat.zero_add _)) (Nat.le_of_eq (Nat.zero_add _)) ?_
      obtain ⟨I4, hI4⟩ : ∃ x, x = u2 I 744 0 (I 744 0 + nI 1) := ⟨_, rfl⟩
      rw [← hI4]
      refine Run.ret (some (.int ((-32 : Int32)))) d_X_person_25 ⟨_, rfl⟩ ?_
      first | (exfalso; omega) | exact XD.bad hS 0 (by (try simp only [ekeyN, Int.toNat_natCast] at c1 c3); (unfold o_person); (try dsimp only); (try simp only [ekeyN, Int.toNat_natCast]); (repeat (first | rw [if_pos (by omega)] | rw [if_neg (by omega)])); (try rfl); (all_goals first | rfl | (congr 2 <;> omega) | ((repeat' split) <;> first | rfl | (exfalso; omega) | (congr 2 <;> omega) | skip))) (by decide) FrXR.rf FrX.rf hI4
    · refine r_iload_n (pc2 := 13) d_X_person_12 rfl rfl ?_
      refine r_sipush (v := nI 9999) (pc2 := 16) d_X_person_13 rfl (by decide) ?_
      refine q_icmp_le (tgt := 26) (A := att.toInt) (B := (9999 : Int)) (pc2 := 19) d_X_person_16 rfl rfl (rfl) (nI_toInt (by omega)) (fun c5 => ?_) (fun c5 => ?_)
      · refine r_aload_n (x := some 0) (pc2 := 27) d_X_person_26 rfl rfl ?_
        refine q_getR (x := some 1) (pc2 := 30) d_X_person_27 rfl k_X_12 rfl (sh_0 hS) (rf_0_0 hR) ?_
        refine q_getR (x := some 2) (pc2 := 33) d_X_person_30 rfl k_X_179 rfl (sh_1 hS) (rf_1_0 hR) ?_
        refine r_astore_n (x := some 2) (pc2 := 34) d_X_person_33 rfl rfl (Nat.le_of_ble_eq_true rfl) ?_
        refine r_aload_n (x := some 2) (pc2 := 35) d_X_person_34 rfl rfl ?_
        refine r_iload_n (pc2 := 36) d_X_person_35 rfl rfl ?_
        refine r_i2l (pc2 := 37) d_X_person_36 rfl ?_
        refine q_callv (M2 := mi_Pe_find) (pc2 := 40) d_X_person_37 rfl k_X_183 cm_Pe_find cv_Pe_find (sh_2 hS) (by decide) rfl rfl rfl (Nat.le_of_ble_eq_true rfl) (c_Pe_find (x := (nI keyN).toInt64) hS hR hV hV2 hnt6 hW hWT hKW hrk hD) (d2 := d - 1) (by omega) (Nat.le_of_eq (Nat.zero_add _)) (Nat.le_of_eq (Nat.zero_add _)) ?_
        refine q_top (y := vo (pB G nP (nI keyN))) (by rw [fL_i]) ?_
        cases hopk : pB G nP (nI keyN) with
        | none =>
          refine r_istore (pc2 := 42) d_X_person_40 rfl (Nat.le_of_ble_eq_true rfl) ?_
          refine r_iload (pc2 := 44) d_X_person_42 rfl rfl ?_
          refine r_iconst (v := (-1 : Int32)) (pc2 := 45) d_X_person_44 rfl (by decide) ?_
          refine q_icmp_ne (tgt := 64) (A := (-1 : Int)) (B := (-1 : Int)) (pc2 := 48) d_X_person_45 rfl rfl (by decide) (by decide) (fun c6 => ?_) (fun c6 => ?_)
          · exfalso; omega
          refine r_aload_n (x := some 2) (pc2 := 49) d_X_person_48 rfl rfl ?_
          refine q_getI (x := nI nP) (pc2 := 52) d_X_person_49 rfl k_X_189 (by decide) (sh_2 hS) hD.1.1 ?_
          refine r_bipush (v := nI 24) (pc2 := 54) d_X_person_52 rfl (by decide) ?_
          refine q_icmp_lt (tgt := 64) (A := ((nP : Nat) : Int)) (B := (24 : Int)) (pc2 := 57) d_X_person_54 rfl rfl (nI_toInt (by omega)) (nI_toInt (by omega)) (fun c7 => ?_) (fun c7 => ?_)
          · refine r_iload (pc2 := 66) d_X_person_64 rfl rfl ?_
            refine r_iconst (v := (-1 : Int32)) (pc2 := 67) d_X_person_66 rfl (by decide) ?_
            refine q_icmp_ne (tgt := 79) (A := (-1 : Int)) (B := (-1 : Int)) (pc2 := 70) d_X_person_67 rfl rfl (by decide) (by decide) (fun c8 => ?_) (fun c8 => ?_)
            · exfalso; omega
            have hnop : ∀ p, p < nP → G (6 + 2 * p) ≠ nI keyN := fun p hp q => by
              obtain ⟨y, hy⟩ := fst1_ex (P := fun k => decide (G (6 + 2 * k) = nI keyN)) (decide_eq_true q) hp
              rw [show pB G nP (nI keyN) = some y from hy] at hopk; cases hopk
            refine r_aload_n (x := some 2) (pc2 := 71) d_X_person_70 rfl rfl ?_
            refine r_iload_n (pc2 := 72) d_X_person_71 rfl rfl ?_
            refine r_iload_n (pc2 := 73) d_X_person_72 rfl rfl ?_
            refine r_callv (M2 := mi_Pe_add) (pc2 := 76) d_X_person_73 rfl k_X_192 cm_Pe_add cv_Pe_add (sh_2 hS) (by decide) rfl rfl rfl (Nat.le_of_ble_eq_true rfl) (c_Pe_add (J := I) hS hR (nP := nP) hD.1.1 (by omega) (k := nI keyN) (a := att)) (d2 := d - 1) (by omega) (Nat.le_of_eq (Nat.zero_add _)) (Nat.le_of_eq (Nat.zero_add _)) (fun r2 h2 hq2 => ?_)
            obtain ⟨rfl, I9, I10, I11, rfl, hI9, hI10, hI11⟩ := hq2
            change Run _ _ _ _ _ _ [] _ _
            refine r_goto (tgt := 87) d_X_person_76 rfl ?_
            refine r_aload_n (x := some 2) (pc2 := 88) d_X_person_87 rfl rfl ?_
            refine q_getI (x := nI (nP + 1)) (pc2 := 91) d_X_person_88 rfl k_X_189 (by decide) (sh_2 hS) (rd_eq hI11) ?_
            refine Run.ret (some (.int (nI (nP + 1)))) d_X_person_91 ⟨_, rfl⟩ ?_
            first | (exfalso; omega) | exact XD.val (by (try simp only [ekeyN, Int.toNat_natCast] at c1 c3 c5 c7); (unfold o_person); (try dsimp only); (try simp only [ekeyN, Int.toNat_natCast]); (repeat (first | rw [if_pos (by omega)] | rw [if_neg (by omega)] | (rw [hopk]; try dsimp only))); (try rfl); (all_goals first | rfl | (congr 2 <;> omega) | ((repeat' split) <;> first | rfl | (exfalso; omega) | (congr 2 <;> omega) | skip))) ⟨(((FrD.rf.put hI9 (Or.inl (by omega))).put hI10 (Or.inl (by omega))).put hI11 (Or.inl (by omega))), FrRD.rf, by (try simp only [ekeyN, Int.toNat_natCast] at c1 c3 c5 c7); (unfold g_person nPs); (try dsimp only); (try simp only [ekeyN, Int.toNat_natCast]); (repeat (first | rw [if_pos (by omega)] | rw [if_neg (by omega)] | (rw [hopk]; try dsimp only))); exact DR.person hW hKW hS24 (by omega) hnop hD hI9 hI10 hI11⟩
          · refine r_aload_n (x := some 0) (pc2 := 58) d_X_person_57 rfl rfl ?_
            refine r_bipush (v := (-36 : Int32)) (pc2 := 60) d_X_person_58 rfl (by decide) ?_
            refine q_callv (M2 := mi_X_refuse) (pc2 := 63) d_X_person_60 rfl k_X_75 cm_X_refuse cv_X_refuse (sh_0 hS) (by decide) rfl rfl rfl (Nat.le_of_ble_eq_true rfl) (c_X_refuse_4 (J := I) hS hR) (d2 := d - 1) (by omega) (Nat.le_of_eq (Nat.zero_add _)) (Nat.le_of_eq (Nat.zero_add _)) ?_
            obtain ⟨I12, hI12⟩ : ∃ x, x = u2 I 744 4 (I 744 4 + nI 1) := ⟨_, rfl⟩
            rw [← hI12]
            refine Run.ret (some (.int ((-36 : Int32)))) d_X_person_63 ⟨_, rfl⟩ ?_
            first | (exfalso; omega) | exact XD.bad hS 4 (by (try simp only [ekeyN, Int.toNat_natCast] at c1 c3 c5 c7); (unfold o_person); (try dsimp only); (try simp only [ekeyN, Int.toNat_natCast]); (repeat (first | rw [if_pos (by omega)] | rw [if_neg (by omega)] | (rw [hopk]; try dsimp only))); (try rfl); (all_goals first | rfl | (congr 2 <;> omega) | ((repeat' split) <;> first | rfl | (exfalso; omega) | (congr 2 <;> omega) | skip))) (by decide) FrXR.rf FrX.rf hI12
        | some pk =>
          obtain ⟨hppk, hqpk, -⟩ := fst1_spec (show fst1 _ _ = some pk from hopk)
          refine r_istore (pc2 := 42) d_X_person_40 rfl (Nat.le_of_ble_eq_true rfl) ?_
          refine r_iload (pc2 := 44) d_X_person_42 rfl rfl ?_
          refine r_iconst (v := (-1 : Int32)) (pc2 := 45) d_X_person_44 rfl (by decide) ?_
          refine q_icmp_ne (tgt := 64) (A := ((pk : Nat) : Int)) (B := (-1 : Int)) (pc2 := 48) d_X_person_45 rfl rfl (nI_toInt (by omega)) (by decide) (fun c13 => ?_) (fun c13 => ?_)
          rotate_left
          · exfalso; omega
          refine r_iload (pc2 := 66) d_X_person_64 rfl rfl ?_
          refine r_iconst (v := (-1 : Int32)) (pc2 := 67) d_X_person_66 rfl (by decide) ?_
          refine q_icmp_ne (tgt := 79) (A := ((pk : Nat) : Int)) (B := (-1 : Int)) (pc2 := 70) d_X_person_67 rfl rfl (nI_toInt (by omega)) (by decide) (fun c14 => ?_) (fun c14 => ?_)
          rotate_left
          · exfalso; omega
          refine r_aload_n (x := some 2) (pc2 := 80) d_X_person_79 rfl rfl ?_
          refine q_getR (x := some 4) (pc2 := 83) d_X_person_80 rfl k_X_195 rfl (sh_2 hS) (rf_2_1 hR) ?_
          refine r_iload (pc2 := 85) d_X_person_83 rfl rfl ?_
          refine r_iload_n (pc2 := 86) d_X_person_85 rfl rfl ?_
          refine q_iastore (q := pk) (pc2 := 87) d_X_person_86 rfl (sh_4 hS) (nI_toInt (by omega)) (by omega) (fun I15 hI15 => ?_)
          refine r_aload_n (x := some 2) (pc2 := 88) d_X_person_87 rfl rfl ?_
          refine q_getI (x := nI nP) (pc2 := 91) d_X_person_88 rfl k_X_189 (by decide) (sh_2 hS) ((rd_ne hI15 (by decide)).trans (hD.1.1)) ?_
          refine Run.ret (some (.int (nI nP))) d_X_person_91 ⟨_, rfl⟩ ?_
          first | (exfalso; omega) | exact XD.val (by (try simp only [ekeyN, Int.toNat_natCast] at c1 c3 c5); (unfold o_person); (try dsimp only); (try simp only [ekeyN, Int.toNat_natCast]); (repeat (first | rw [if_pos (by omega)] | rw [if_neg (by omega)] | (rw [hopk]; try dsimp only))); (try rfl); (all_goals first | rfl | (congr 2 <;> omega) | ((repeat' split) <;> first | rfl | (exfalso; omega) | (congr 2 <;> omega) | skip))) ⟨(FrD.rf.put hI15 (Or.inl (by omega))), FrRD.rf, by (try simp only [ekeyN, Int.toNat_natCast] at c1 c3 c5); (unfold g_person nPs); (try dsimp only); (try simp only [ekeyN, Int.toNat_natCast]); (repeat (first | rw [if_pos (by omega)] | rw [if_neg (by omega)] | (rw [hopk]; try dsimp only))); exact DR.attr hW hppk hD hI15⟩
      · refine r_aload_n (x := some 0) (pc2 := 20) d_X_person_19 rfl rfl ?_
        refine r_bipush (v := (-32 : Int32)) (pc2 := 22) d_X_person_20 rfl (by decide) ?_
        refine q_callv (M2 := mi_X_refuse) (pc2 := 25) d_X_person_22 rfl k_X_75 cm_X_refuse cv_X_refuse (sh_0 hS) (by decide) rfl rfl rfl (Nat.le_of_ble_eq_true rfl) (c_X_refuse_0 (J := I) hS hR) (d2 := d - 1) (by omega) (Nat.le_of_eq (Nat.zero_add _)) (Nat.le_of_eq (Nat.zero_add _)) ?_
        obtain ⟨I16, hI16⟩ : ∃ x, x = u2 I 744 0 (I 744 0 + nI 1) := ⟨_, rfl⟩
        rw [← hI16]
        refine Run.ret (some (.int ((-32 : Int32)))) d_X_person_25 ⟨_, rfl⟩ ?_
        first | (exfalso; omega) | exact XD.bad hS 0 (by (try simp only [ekeyN, Int.toNat_natCast] at c1 c3 c5); (unfold o_person); (try dsimp only); (try simp only [ekeyN, Int.toNat_natCast]); (repeat (first | rw [if_pos (by omega)] | rw [if_neg (by omega)])); (try rfl); (all_goals first | rfl | (congr 2 <;> omega) | ((repeat' split) <;> first | rfl | (exfalso; omega) | (congr 2 <;> omega) | skip))) (by decide) FrXR.rf FrX.rf hI16
