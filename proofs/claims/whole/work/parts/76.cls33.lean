/-! THE CLASS: image, back, later -/
theorem DR.w {K F C S : Nat → Int32} {I J : Nat → Nat → Int32} {R R' : Nat → Nat → Option Nat} {sh : Nat → Nat × Nat} {nt d nP nF nS : Nat} {G : Nat → Int32} (hW : WFA G nP nF nt) (hd : d < 3) (h : DR K F C S I R sh nt d G nP nF nS) (h1 : ∀ a j, dk d ≤ a → a < dk d + 239 → J a j = I a j) (h1R : ∀ a j, dk d ≤ a → a < dk d + 239 → R' a j = R a j) (hJ : ∀ a j, 781 ≤ a → (sh a).1 ≠ 14 → J a j = I a j) (hR : ∀ a j, 781 ≤ a → R' a j = R a j) : DR K F C S J R' sh nt d G nP nF nS :=
  h.fr hW.2.2.2.1 (fun E hE => by
    obtain ⟨tp, kl, sk, fb, nR, nN, nO, fr, to, -, -, -, -, ⟨-, b4, c4, -⟩, -⟩ := wfn (hW.2.2.2.2.1 E hE)
    unfold nRof; rw [b4, Int.toNat_natCast]; exact c4) hd h1 h1R hJ hR
/-- asking leaves any desk as it is -/
theorem DR.n {K F C S : Nat → Int32} {I J : Nat → Nat → Int32} {R : Nat → Nat → Option Nat} {sh : Nat → Nat × Nat} {nt d nP nF nS A : Nat} {G : Nat → Int32} (hS : ShOK sh) (hW : WFA G nP nF nt) (hd : d < 3) (hA : A = 718 ∨ A = 723) (h : DR K F C S I R sh nt d G nP nF nS) (hJ : FrN sh A I J) : DR K F C S J R sh nt d G nP nF nS := by
  have hk : ∀ a, 1 ≤ a → a < 718 → (sh a).1 ≠ 14 := fun a h1 h2 => by
    rw [hS a (by omega)]
    unfold sh0
    rw [if_neg (by omega), if_pos (by omega)]
    exact dkS_k _ (Nat.mod_lt _ (by decide))
  exact h.w hW hd (fun a j h1 h2 => hJ a j (by unfold dk at h2; omega) (hk a (by unfold dk at h1; omega) (by unfold dk at h2; omega))) (fun _ _ _ _ => rfl) (fun a j h1 h2 => hJ a j (by omega) h2) (fun _ _ _ => rfl)
theorem FrE.frR {t : Nat} {R R' : Nat → Nat → Option Nat} (h : BR t R R') (hR : RfOK R) : RfOK R' := h.2 hR
theorem c_X_image {d : Nat} {I : Nat → Nat → Int32} {R : Nat → Nat → Option Nat} {L : Nat → Nat → Int64} {sh : Nat → Nat × Nat} {N : Nat} (hS : ShOK sh) (hR : RfOK R) {tK tF tC tS : Nat → Int32} {nt : Nat} (hV : TV tK tF tC nt) (hV2 : TV2 tK tF tC tS nt) (hnt6 : nt ≤ 1000000) {G : Nat → Int32} {nP nF nS : Nat} (hW : WFA G nP nF nt) (hWT : WFT G nF nS) (hKW : WFK G nP nF) {rk : Nat → Nat} (hrk : RK G nF rk) (hD : DR tK tF tC tS I R sh nt 0 G nP nF nS) (hd : 20 ≤ d) : Mt mi_X_image d 0 0 [.ref 0] (I, R, L, sh, N) (fun r h2 => r = some (.int (nI 1)) ∧ ∃ K1 K R1, h2 = (K, R1, L, sh, N) ∧ FrE 1 I K1 ∧ K = u2 K1 0 3 (nI 1) ∧ BR 1 R R1 ∧ DR tK tF tC tS K R1 sh nt 1 G nP nF nS) := by
  refine Mt.of pn_X (Nat.le_of_ble_eq_true rfl) ?_
  show Run mi_X_image d 0 0 0 [(0, .ref 0)] [] (I, R, L, sh, N) _
  refine r_aload_n (x := some 0) (pc2 := 1) d_X_image_0 rfl rfl ?_
  refine q_getR (x := some 240) (pc2 := 4) d_X_image_1 rfl k_X_16 rfl (sh_0 hS) (rf_0_1 hR) ?_
  refine r_aload_n (x := some 0) (pc2 := 5) d_X_image_4 rfl rfl ?_
  refine q_getR (x := some 1) (pc2 := 8) d_X_image_5 rfl k_X_12 rfl (sh_0 hS) (rf_0_0 hR) ?_
  refine r_callv (M2 := mi_De_become) (pc2 := 11) d_X_image_8 rfl k_X_339 cm_De_become cv_De_become (sh_240 hS) (by decide) rfl rfl rfl (Nat.le_of_ble_eq_true rfl) (c_De_become_01 (I := I) hS hR hW hWT.2.1 hD (d := d - 1) (by omega)) (d2 := d - 1) (by omega) (Nat.le_of_eq (Nat.zero_add _)) (Nat.le_of_eq (Nat.zero_add _)) (fun r2 h2 hq2 => ?_)
  obtain ⟨rfl, K1, R2, rfl, hfK1, hbR2, hdK1⟩ := hq2
  change Run _ _ _ _ _ _ [] _ _
  have hrR2 := hbR2.2 hR
  refine r_aload_n (x := some 0) (pc2 := 12) d_X_image_11 rfl rfl ?_
  refine r_iconst (v := nI 1) (pc2 := 13) d_X_image_12 rfl (by decide) ?_
  refine q_putI (pc2 := 16) d_X_image_13 rfl k_X_22 (Or.inr ⟨rfl, by decide⟩) (sh_0 hS) (Or.inl rfl) (fun I3 hI3 => ?_)
  refine r_iconst (v := nI 1) (pc2 := 17) d_X_image_16 rfl (by decide) ?_
  refine Run.ret (some (.int (nI 1))) d_X_image_17 ⟨_, rfl⟩ ?_
  exact ⟨rfl, _, _, _, rfl, hfK1, hI3, hbR2, DR.w hW (by decide) hdK1 (fun a j h1 h2 => rd_ne hI3 (by unfold dk at h1; omega)) (fun _ _ _ _ => rfl) (fun a j h1 _ => rd_ne hI3 (by omega)) (fun _ _ _ => rfl)⟩
theorem c_X_back {d : Nat} {I : Nat → Nat → Int32} {R : Nat → Nat → Option Nat} {L : Nat → Nat → Int64} {sh : Nat → Nat × Nat} {N : Nat} (hS : ShOK sh) (hR : RfOK R) {tK tF tC tS : Nat → Int32} {nt : Nat} {G : Nat → Int32} {nP nF nS : Nat} {hv : Int32} (hi : I 0 3 = hv) (hW : ¬ hv.toInt = 0 → WFA G nP nF nt) (h24 : ¬ hv.toInt = 0 → nS ≤ 24) (hD : ¬ hv.toInt = 0 → DR tK tF tC tS I R sh nt 1 G nP nF nS) (hd : 20 ≤ d) : Mt mi_X_back d 0 0 [.ref 0] (I, R, L, sh, N) (XD I R L sh N (o_back hv) (fun K R1 => FrE 0 I K ∧ BR 0 R R1 ∧ DR tK tF tC tS K R1 sh nt 0 G nP nF nS)) := by
  refine Mt.of pn_X (Nat.le_of_ble_eq_true rfl) ?_
  show Run mi_X_back d 0 0 0 [(0, .ref 0)] [] (I, R, L, sh, N) _
  refine r_aload_n (x := some 0) (pc2 := 1) d_X_back_0 rfl rfl ?_
  refine q_getI (x := hv) (pc2 := 4) d_X_back_1 rfl k_X_22 (by decide) (sh_0 hS) hi ?_
  refine q_if_ne (tgt := 14) (A := hv.toInt) (pc2 := 7) d_X_back_4 rfl rfl (rfl) (fun c1 => ?_) (fun c1 => ?_)
  · refine r_aload_n (x := some 0) (pc2 := 15) d_X_back_14 rfl rfl ?_
    refine q_getR (x := some 1) (pc2 := 18) d_X_back_15 rfl k_X_12 rfl (sh_0 hS) (rf_0_0 hR) ?_
    refine r_aload_n (x := some 0) (pc2 := 19) d_X_back_18 rfl rfl ?_
    refine q_getR (x := some 240) (pc2 := 22) d_X_back_19 rfl k_X_16 rfl (sh_0 hS) (rf_0_1 hR) ?_
    refine r_callv (M2 := mi_De_become) (pc2 := 25) d_X_back_22 rfl k_X_339 cm_De_become cv_De_become (sh_1 hS) (by decide) rfl rfl rfl (Nat.le_of_ble_eq_true rfl) (c_De_become_10 (I := I) hS hR (hW (by omega)) (h24 (by omega)) (hD (by omega)) (d := d - 1) (by omega)) (d2 := d - 1) (by omega) (Nat.le_of_eq (Nat.zero_add _)) (Nat.le_of_eq (Nat.zero_add _)) (fun r2 h2 hq2 => ?_)
    obtain ⟨rfl, K2, R3, rfl, hfK2, hbR3, hdK2⟩ := hq2
    change Run _ _ _ _ _ _ [] _ _
    have hrR3 := hbR3.2 hR
    refine r_iconst (v := nI 1) (pc2 := 26) d_X_back_25 rfl (by decide) ?_
    refine Run.ret (some (.int (nI 1))) d_X_back_26 ⟨_, rfl⟩ ?_
    exact XD.val (by unfold o_back; rw [if_neg (by omega)]) ⟨hfK2, hbR3, hdK2⟩
  · refine r_aload_n (x := some 0) (pc2 := 8) d_X_back_7 rfl rfl ?_
    refine r_bipush (v := (-35 : Int32)) (pc2 := 10) d_X_back_8 rfl (by decide) ?_
    refine q_callv (M2 := mi_X_refuse) (pc2 := 13) d_X_back_10 rfl k_X_75 cm_X_refuse cv_X_refuse (sh_0 hS) (by decide) rfl rfl rfl (Nat.le_of_ble_eq_true rfl) (c_X_refuse_3 (J := I) hS hR) (d2 := d - 1) (by omega) (Nat.le_of_eq (Nat.zero_add _)) (Nat.le_of_eq (Nat.zero_add _)) ?_
    obtain ⟨I4, hI4⟩ : ∃ x, x = u2 I 744 3 (I 744 3 + nI 1) := ⟨_, rfl⟩
    rw [← hI4]
    refine Run.ret (some (.int ((-35 : Int32)))) d_X_back_13 ⟨_, rfl⟩ ?_
    exact XD.bad hS 3 (by unfold o_back; rw [if_pos (by omega)]) (by decide) FrXR.rf FrX.rf hI4
theorem c_X_later {d : Nat} {I : Nat → Nat → Int32} {R : Nat → Nat → Option Nat} {L : Nat → Nat → Int64} {sh : Nat → Nat × Nat} {N : Nat} (hS : ShOK sh) (hR : RfOK R) {tK tF tC tS : Nat → Int32} {nt : Nat} (hV : TV tK tF tC nt) (hV2 : TV2 tK tF tC tS nt) (hnt6 : nt ≤ 1000000) {G : Nat → Int32} {nP nF nS : Nat} (hW : WFA G nP nF nt) (hWT : WFT G nF nS) (hKW : WFK G nP nF) {rk : Nat → Nat} (hrk : RK G nF rk) (hD : DR tK tF tC tS I R sh nt 0 G nP nF nS) {f : Int32} {key : Int32} {t : Int32} (hd : 80 ≤ d) : Mt mi_X_later d 0 0 [.ref 0, .int f, .int key, .int t] (I, R, L, sh, N) (XP I R L sh N (o_later (TRK tK tF tC tS) G nP nF nS f key t) (fun K _ => FrX sh I K)) := by
  obtain ⟨hPc, hP24, hFc, hF12, hWF, hWP⟩ := id hW
  refine Mt.of pn_X (Nat.le_of_ble_eq_true rfl) ?_
  show Run mi_X_later d 0 0 0 [(0, .ref 0), (1, .int f), (2, .int key), (3, .int t)] [] (I, R, L, sh, N) _
  have h30 := hKW.2.2.2
  have htl := t.toInt_lt
  have h3l := (G 3).toInt_lt
  refine r_aload_n (x := some 0) (pc2 := 1) d_X_later_0 rfl rfl ?_
  refine q_getR (x := some 1) (pc2 := 4) d_X_later_1 rfl k_X_12 rfl (sh_0 hS) (rf_0_0 hR) ?_
  refine q_getR (x := some 2) (pc2 := 7) d_X_later_4 rfl k_X_179 rfl (sh_1 hS) (rf_1_0 hR) ?_
  refine r_iload_n (pc2 := 8) d_X_later_7 rfl rfl ?_
  refine r_i2l (pc2 := 9) d_X_later_8 rfl ?_
  refine q_callv (M2 := mi_Pe_find) (pc2 := 12) d_X_later_9 rfl k_X_183 cm_Pe_find cv_Pe_find (sh_2 hS) (by decide) rfl rfl rfl (Nat.le_of_ble_eq_true rfl) (c_Pe_find (x := key.toInt64) hS hR hV hV2 hnt6 hW hWT hKW hrk hD) (d2 := d - 1) (by omega) (Nat.le_of_eq (Nat.zero_add _)) (Nat.le_of_eq (Nat.zero_add _)) ?_
  refine q_top (y := vo (pB G nP key)) (by rw [fL_i]) ?_
  cases hopkkey : pB G nP key with
  | none =>
    refine r_istore (pc2 := 14) d_X_later_12 rfl (Nat.le_of_ble_eq_true rfl) ?_
    refine r_iload (pc2 := 16) d_X_later_14 rfl rfl ?_
    refine r_iconst (v := (-1 : Int32)) (pc2 := 17) d_X_later_16 rfl (by decide) ?_
    refine q_icmp_eq (tgt := 54) (A := (-1 : Int)) (B := (-1 : Int)) (pc2 := 20) d_X_later_17 rfl rfl (by decide) (by decide) (fun c1 => ?_) (fun c1 => ?_)
    rotate_left
    · exfalso; omega
    refine r_aload_n (x := some 0) (pc2 := 55) d_X_later_54 rfl rfl ?_
    refine r_bipush (v := (-32 : Int32)) (pc2 := 57) d_X_later_55 rfl (by decide) ?_
    refine q_callv (M2 := mi_X_refuse) (pc2 := 60) d_X_later_57 rfl k_X_75 cm_X_refuse cv_X_refuse (sh_0 hS) (by decide) rfl rfl rfl (Nat.le_of_ble_eq_true rfl) (c_X_refuse_0 (J := I) hS hR) (d2 := d - 1) (by omega) (Nat.le_of_eq (Nat.zero_add _)) (Nat.le_of_eq (Nat.zero_add _)) ?_
    obtain ⟨I2, hI2⟩ : ∃ x, x = u2 I 744 0 (I 744 0 + nI 1) := ⟨_, rfl⟩
    rw [← hI2]
    refine Run.ret (some (.int ((-32 : Int32)))) d_X_later_60 ⟨_, rfl⟩ ?_
    first | (exfalso; omega) | exact XP.bad hS 0 (by (unfold o_later); (try dsimp only); (try simp only [Int.toNat_natCast]); (repeat (first | rw [if_pos (by omega)] | rw [if_neg (by omega)] | (rw [hopkkey]; try dsimp only))); (try rfl); (all_goals first | rfl | (congr 2 <;> omega) | ((repeat' split) <;> first | rfl | (exfalso; omega) | (congr 2 <;> omega) | skip))) (by decide) FrXR.rf FrX.rf hI2
  | some pkkey =>
    obtain ⟨hppkkey, hqpkkey, -⟩ := fst1_spec (show fst1 _ _ = some pkkey from hopkkey)
    refine r_istore (pc2 := 14) d_X_later_12 rfl (Nat.le_of_ble_eq_true rfl) ?_
    refine r_iload (pc2 := 16) d_X_later_14 rfl rfl ?_
    refine r_iconst (v := (-1 : Int32)) (pc2 := 17) d_X_later_16 rfl (by decide) ?_
    refine q_icmp_eq (tgt := 54) (A := ((pkkey : Nat) : Int)) (B := (-1 : Int)) (pc2 := 20) d_X_later_17 rfl rfl (nI_toInt (by omega)) (by decide) (fun c3 => ?_) (fun c3 => ?_)
    · exfalso; omega
    refine r_aload_n (x := some 0) (pc2 := 21) d_X_later_20 rfl rfl ?_
    refine r_iload_n (pc2 := 22) d_X_later_21 rfl rfl ?_
    refine q_callv (M2 := mi_X_isFeature) (pc2 := 25) d_X_later_22 rfl k_X_220 cm_X_isFeature cv_X_isFeature (sh_0 hS) (by decide) rfl rfl rfl (Nat.le_of_ble_eq_true rfl) (c_X_isFeature (f := f) hS hR hV hV2 hnt6 hW hWT hKW hrk hD) (d2 := d - 1) (by omega) (Nat.le_of_eq (Nat.zero_add _)) (Nat.le_of_eq (Nat.zero_add _)) ?_
    refine q_bif_eq (tgt := 54) (pc2 := 28) d_X_later_25 rfl rfl (fun c4 => ?_) (fun c4 => ?_)
    · refine r_aload_n (x := some 0) (pc2 := 55) d_X_later_54 rfl rfl ?_
      refine r_bipush (v := (-32 : Int32)) (pc2 := 57) d_X_later_55 rfl (by decide) ?_
      refine q_callv (M2 := mi_X_refuse) (pc2 := 60) d_X_later_57 rfl k_X_75 cm_X_refuse cv_X_refuse (sh_0 hS) (by decide) rfl rfl rfl (Nat.le_of_ble_eq_true rfl) (c_X_refuse_0 (J := I) hS hR) (d2 := d - 1) (by omega) (Nat.le_of_eq (Nat.zero_add _)) (Nat.le_of_eq (Nat.zero_add _)) ?_
      obtain ⟨I5, hI5⟩ : ∃ x, x = u2 I 744 0 (I 744 0 + nI 1) := ⟨_, rfl⟩
      rw [← hI5]
      refine Run.ret (some (.int ((-32 : Int32)))) d_X_later_60 ⟨_, rfl⟩ ?_
      first | (exfalso; omega) | exact XP.bad hS 0 (by (unfold o_later); (try dsimp only); (try simp only [Int.toNat_natCast]); (repeat (first | rw [if_pos (by omega)] | rw [if_neg (by omega)] | (rw [hopkkey]; try dsimp only))); (try rfl); (all_goals first | rfl | (congr 2 <;> omega) | ((repeat' split) <;> first | rfl | (exfalso; omega) | (congr 2 <;> omega) | skip))) (by decide) FrXR.rf FrX.rf hI5
    · obtain ⟨fN, hfN, rfl, efN⟩ := nat_of c4
      obtain ⟨tpfN, klfN, skfN, fbfN, nRfN, nNfN, nOfN, frfN, tofN, ⟨a0fN, b0fN, cc0fN, dd0fN⟩, ⟨a1fN, b1fN, cc1fN, dd1fN⟩, ⟨a2fN, b2fN, cc2fN, dd2fN⟩, ⟨a3fN, b3fN, cc3fN, dd3fN⟩, ⟨a4fN, b4fN, cc4fN, dd4fN⟩, ⟨a5fN, b5fN, cc5fN, dd5fN⟩, ⟨a6fN, b6fN, cc6fN, dd6fN⟩, ⟨a8fN, b8fN, cc8fN, dd8fN⟩, ⟨a9fN, b9fN, cc9fN, dd9fN⟩⟩ := wfn (hWF fN (by omega))
      obtain ⟨-, -, -, -, -, -, -, w7fN, -, -, wNfN, wRfN, wKfN, wOfN⟩ := hWF fN (by omega)
      obtain ⟨⟨x0fN, x1fN, x2fN, x3fN, x4fN, x5fN, x6fN, x7fN, x8fN⟩, xnfN, xofN, xkfN, xcfN, xrfN⟩ := hD.2.2.2.1 fN (by omega)
      have hflfN := fe_lt (e := 0) (by decide) (show fN < 12 by omega)
      unfold dk at hflfN
      refine r_iload_n (pc2 := 29) d_X_later_28 rfl rfl ?_
      refine r_aload_n (x := some 0) (pc2 := 30) d_X_later_29 rfl rfl ?_
      refine q_getR (x := some 1) (pc2 := 33) d_X_later_30 rfl k_X_12 rfl (sh_0 hS) (rf_0_0 hR) ?_
      refine q_getI (x := G 3) (pc2 := 36) d_X_later_33 rfl k_X_301 (by decide) (sh_1 hS) hD.1.2.2.1 ?_
      refine q_icmp_lt (tgt := 54) (A := t.toInt) (B := (G 3).toInt) (pc2 := 39) d_X_later_36 rfl rfl (rfl) (rfl) (fun c6 => ?_) (fun c6 => ?_)
      · refine r_aload_n (x := some 0) (pc2 := 55) d_X_later_54 rfl rfl ?_
        refine r_bipush (v := (-32 : Int32)) (pc2 := 57) d_X_later_55 rfl (by decide) ?_
        refine q_callv (M2 := mi_X_refuse) (pc2 := 60) d_X_later_57 rfl k_X_75 cm_X_refuse cv_X_refuse (sh_0 hS) (by decide) rfl rfl rfl (Nat.le_of_ble_eq_true rfl) (c_X_refuse_0 (J := I) hS hR) (d2 := d - 1) (by omega) (Nat.le_of_eq (Nat.zero_add _)) (Nat.le_of_eq (Nat.zero_add _)) ?_
        obtain ⟨I7, hI7⟩ : ∃ x, x = u2 I 744 0 (I 744 0 + nI 1) := ⟨_, rfl⟩
        rw [← hI7]
        refine Run.ret (some (.int ((-32 : Int32)))) d_X_later_60 ⟨_, rfl⟩ ?_
        first | (exfalso; omega) | exact XP.bad hS 0 (by (try simp only [efN, b0fN, b1fN, b2fN, b3fN, b4fN, b5fN, b6fN, b8fN, b9fN, Int.toNat_natCast] at c4 c6); (unfold o_later); (try dsimp only); (try simp only [efN, b0fN, b1fN, b2fN, b3fN, b4fN, b5fN, b6fN, b8fN, b9fN, Int.toNat_natCast]); (repeat (first | rw [if_pos (by omega)] | rw [if_neg (by omega)] | (rw [hopkkey]; try dsimp only))); (try rfl); (all_goals first | rfl | (simp only [a0fN, a1fN, a2fN, a3fN, a4fN, a5fN, a6fN, a8fN, a9fN]; done) | (congr 2 <;> omega) | ((repeat' split) <;> first | rfl | (simp only [a0fN, a1fN, a2fN, a3fN, a4fN, a5fN, a6fN, a8fN, a9fN]; done) | (exfalso; omega) | (congr 2 <;> omega) | skip))) (by decide) FrXR.rf FrX.rf hI7
      · refine r_iload_n (pc2 := 40) d_X_later_39 rfl rfl ?_
        refine r_aload_n (x := some 0) (pc2 := 41) d_X_later_40 rfl rfl ?_
        refine q_getR (x := some 1) (pc2 := 44) d_X_later_41 rfl k_X_12 rfl (sh_0 hS) (rf_0_0 hR) ?_
        refine q_getI (x := G 3) (pc2 := 47) d_X_later_44 rfl k_X_301 (by decide) (sh_1 hS) hD.1.2.2.1 ?_
        refine q_isubV (pc2 := 48) d_X_later_47 rfl (A := t.toInt) (B := (G 3).toInt) (rfl) (rfl) (by constructor <;> omega) (fun y8 ey8 hy8 => ?_)
        refine r_sipush (v := nI 9999) (pc2 := 51) d_X_later_48 rfl (by decide) ?_
        refine q_icmp_le (tgt := 61) (A := t.toInt - (G 3).toInt) (B := (9999 : Int)) (pc2 := 54) d_X_later_51 rfl rfl (hy8) (nI_toInt (by omega)) (fun c9 => ?_) (fun c9 => ?_)
        · refine r_aload_n (x := some 0) (pc2 := 62) d_X_later_61 rfl rfl ?_
          refine q_getR (x := some 479) (pc2 := 65) d_X_later_62 rfl k_X_19 rfl (sh_0 hS) (rf_0_2 hR) ?_
          refine r_aload_n (x := some 0) (pc2 := 66) d_X_later_65 rfl rfl ?_
          refine q_getR (x := some 1) (pc2 := 69) d_X_later_66 rfl k_X_12 rfl (sh_0 hS) (rf_0_0 hR) ?_
          refine r_callv (M2 := mi_De_become) (pc2 := 72) d_X_later_69 rfl k_X_339 cm_De_become cv_De_become (sh_479 hS) (by decide) rfl rfl rfl (Nat.le_of_ble_eq_true rfl) (c_De_become_02 (I := I) hS hR hW hWT.2.1 hD (d := d - 1) (by omega)) (d2 := d - 1) (by omega) (Nat.le_of_eq (Nat.zero_add _)) (Nat.le_of_eq (Nat.zero_add _)) (fun r2 h2 hq2 => ?_)
          obtain ⟨rfl, K10, R11, rfl, hfK10, hbR11, hdK10⟩ := hq2
          change Run _ _ _ _ _ _ [] _ _
          have hrR11 := hbR11.2 hR
          refine r_aload_n (x := some 0) (pc2 := 73) d_X_later_72 rfl rfl ?_
          refine q_getR (x := some 479) (pc2 := 76) d_X_later_73 rfl k_X_19 rfl (sh_0 hS) (rf_0_2 hrR11) ?_
          refine r_iload_n (pc2 := 77) d_X_later_76 rfl rfl ?_
          refine r_callv (M2 := mi_De_doSteps) (pc2 := 80) d_X_later_77 rfl k_X_343 cm_De_doSteps cv_De_doSteps (sh_479 hS) (by decide) rfl rfl rfl (Nat.le_of_ble_eq_true rfl) (c_De_doSteps_2 (J := K10) (R := R11) hS hrR11 hW hWT hdK10 (t := t) (d := d - 1) (by omega)) (d2 := d - 1) (by omega) (Nat.le_of_eq (Nat.zero_add _)) (Nat.le_of_eq (Nat.zero_add _)) (fun r2 h2 hq2 => ?_)
          obtain ⟨K12, rfl, rfl, hfK12, hdK12⟩ := hq2
          change Run _ _ _ _ _ _ [.int (nI (stI t nS G).1)] _ _
          have hst := stI_all (t := t) nS G hW hWT
          refine r_pop (pc2 := 81) d_X_later_80 rfl rfl ?_
          refine r_aload_n (x := some 0) (pc2 := 82) d_X_later_81 rfl rfl ?_
          refine r_iload_n (pc2 := 83) d_X_later_82 rfl rfl ?_
          refine r_iload (pc2 := 85) d_X_later_83 rfl rfl ?_
          refine r_callv (M2 := mi_X_answerInTrial) (pc2 := 88) d_X_later_85 rfl k_X_346 cm_X_answerInTrial cv_X_answerInTrial (sh_0 hS) (by decide) rfl rfl rfl (Nat.le_of_ble_eq_true rfl) (c_X_answerInTrial (I := K12) (R := R11) hS hrR11 hV hV2 hnt6 hst.1 hdK12 (stI_K hW hWT hrk) (p := pkkey) (by omega) (F := fN) (by omega) FrN.rf (d := d - 1) (by omega)) (d2 := d - 1) (by omega) (Nat.le_of_eq (Nat.zero_add _)) (Nat.le_of_eq (Nat.zero_add _)) (fun r2 h2 hq2 => ?_)
          obtain ⟨K13, rfl, rfl, hnK13, -⟩ := hq2
          change Run _ _ _ _ _ _ [.int ((AN (TRK tK tF tC tS) (stI t nS G).2 pkkey fN).1)] _ _
          refine Run.ret (some (.int ((AN (TRK tK tF tC tS) (stI t nS G).2 pkkey fN).1))) d_X_later_88 ⟨_, rfl⟩ ?_
          first | (exfalso; omega) | exact XP.val (by (try simp only [efN, b0fN, b1fN, b2fN, b3fN, b4fN, b5fN, b6fN, b8fN, b9fN, Int.toNat_natCast] at c4 c6 c9); (unfold o_later); (try dsimp only); (try simp only [efN, b0fN, b1fN, b2fN, b3fN, b4fN, b5fN, b6fN, b8fN, b9fN, Int.toNat_natCast]); (repeat (first | rw [if_pos (by omega)] | rw [if_neg (by omega)] | (rw [hopkkey]; try dsimp only))); (try rfl); (all_goals first | rfl | (simp only [a0fN, a1fN, a2fN, a3fN, a4fN, a5fN, a6fN, a8fN, a9fN]; done) | (congr 2 <;> omega) | ((repeat' split) <;> first | rfl | (simp only [a0fN, a1fN, a2fN, a3fN, a4fN, a5fN, a6fN, a8fN, a9fN]; done) | (exfalso; omega) | (congr 2 <;> omega) | skip))) hbR11.x (FrX.tr (hfK10.tr hfK12).x (hnK13.x (by decide)))
        · refine r_aload_n (x := some 0) (pc2 := 55) d_X_later_54 rfl rfl ?_
          refine r_bipush (v := (-32 : Int32)) (pc2 := 57) d_X_later_55 rfl (by decide) ?_
          refine q_callv (M2 := mi_X_refuse) (pc2 := 60) d_X_later_57 rfl k_X_75 cm_X_refuse cv_X_refuse (sh_0 hS) (by decide) rfl rfl rfl (Nat.le_of_ble_eq_true rfl) (c_X_refuse_0 (J := I) hS hR) (d2 := d - 1) (by omega) (Nat.le_of_eq (Nat.zero_add _)) (Nat.le_of_eq (Nat.zero_add _)) ?_
          obtain ⟨I14, hI14⟩ : ∃ x, x = u2 I 744 0 (I 744 0 + nI 1) := ⟨_, rfl⟩
          rw [← hI14]
          refine Run.ret (some (.int ((-32 : Int32)))) d_X_later_60 ⟨_, rfl⟩ ?_
          first | (exfalso; omega) | exact XP.bad hS 0 (by (try simp only [efN, b0fN, b1fN, b2fN, b3fN, b4fN, b5fN, b6fN, b8fN, b9fN, Int.toNat_natCast] at c4 c6 c9); (unfold o_later); (try dsimp only); (try simp only [efN, b0fN, b1fN, b2fN, b3fN, b4fN, b5fN, b6fN, b8fN, b9fN, Int.toNat_natCast]); (repeat (first | rw [if_pos (by omega)] | rw [if_neg (by omega)] | (rw [hopkkey]; try dsimp only))); (try rfl); (all_goals first | rfl | (simp only [a0fN, a1fN, a2fN, a3fN, a4fN, a5fN, a6fN, a8fN, a9fN]; done) | (congr 2 <;> omega) | ((repeat' split) <;> first | rfl | (simp only [a0fN, a1fN, a2fN, a3fN, a4fN, a5fN, a6fN, a8fN, a9fN]; done) | (exfalso; omega) | (congr 2 <;> omega) | skip))) (by decide) FrXR.rf FrX.rf hI14
