/-! THE CLASS: spelled -/
theorem c_X_spelled {d : Nat} {I : Nat → Nat → Int32} {R : Nat → Nat → Option Nat} {L : Nat → Nat → Int64} {sh : Nat → Nat × Nat} {N : Nat} (hS : ShOK sh) (hR : RfOK R) {tK tF tC tS : Nat → Int32} {nt : Nat} (hV : TV tK tF tC nt) (hV2 : TV2 tK tF tC tS nt) (hnt6 : nt ≤ 1000000) {G : Nat → Int32} {nP nF nS : Nat} (hW : WFA G nP nF nt) (hWT : WFT G nF nS) (hKW : WFK G nP nF) {rk : Nat → Nat} (hrk : RK G nF rk) (hD : DR tK tF tC tS I R sh nt 0 G nP nF nS) {f : Int32} {r : Int32} {i : Int32} (hLY : ∀ c, sh c = (1, 0) → ∃ ns, CoK c ns I R sh ∧ NV ns ∧ PF ns 0 (ns.length - 1) ∧ ln ns (ns.length - 1) ≤ 250 ∧ ns.length < 250 ∧ 0 < ns.length) (hd : 80 ≤ d) : Mt mi_X_spelled d 0 0 [.ref 0, .int f, .int r, .int i] (I, R, L, sh, N) (XP I R L sh N (o_spelled tK tF tC tS G nF f r i) (fun K _ => FrX sh I K)) := by
  obtain ⟨hPc, hP24, hFc, hF12, hWF, hWP⟩ := id hW
  refine Mt.of pn_X (Nat.le_of_ble_eq_true rfl) ?_
  show Run mi_X_spelled d 0 0 0 [(0, .ref 0), (1, .int f), (2, .int r), (3, .int i)] [] (I, R, L, sh, N) _
  refine r_aload_n (x := some 0) (pc2 := 1) d_X_spelled_0 rfl rfl ?_
  refine r_iload_n (pc2 := 2) d_X_spelled_1 rfl rfl ?_
  refine r_iload_n (pc2 := 3) d_X_spelled_2 rfl rfl ?_
  refine q_callv (M2 := mi_X_isRule) (pc2 := 6) d_X_spelled_3 rfl k_X_122 cm_X_isRule cv_X_isRule (sh_0 hS) (by decide) rfl rfl rfl (Nat.le_of_ble_eq_true rfl) (c_X_isRule (f := f) (r := r) hS hR hV hV2 hnt6 hW hWT hKW hrk hD (by omega)) (d2 := d - 1) (by omega) (Nat.le_of_eq (Nat.zero_add _)) (Nat.le_of_eq (Nat.zero_add _)) ?_
  refine q_bif_ne (tgt := 16) (pc2 := 9) d_X_spelled_6 rfl rfl (fun c1 => ?_) (fun c1 => ?_)
  · obtain ⟨fN, hfN, rfl, efN⟩ := nat_of c1.1
    obtain ⟨tpfN, klfN, skfN, fbfN, nRfN, nNfN, nOfN, frfN, tofN, ⟨a0fN, b0fN, cc0fN, dd0fN⟩, ⟨a1fN, b1fN, cc1fN, dd1fN⟩, ⟨a2fN, b2fN, cc2fN, dd2fN⟩, ⟨a3fN, b3fN, cc3fN, dd3fN⟩, ⟨a4fN, b4fN, cc4fN, dd4fN⟩, ⟨a5fN, b5fN, cc5fN, dd5fN⟩, ⟨a6fN, b6fN, cc6fN, dd6fN⟩, ⟨a8fN, b8fN, cc8fN, dd8fN⟩, ⟨a9fN, b9fN, cc9fN, dd9fN⟩⟩ := wfn (hWF fN (by omega))
    obtain ⟨-, -, -, -, -, -, -, w7fN, -, -, wNfN, wRfN, wKfN, wOfN⟩ := hWF fN (by omega)
    obtain ⟨⟨x0fN, x1fN, x2fN, x3fN, x4fN, x5fN, x6fN, x7fN, x8fN⟩, xnfN, xofN, xkfN, xcfN, xrfN⟩ := hD.2.2.2.1 fN (by omega)
    have hflfN := fe_lt (e := 0) (by decide) (show fN < 12 by omega)
    unfold dk at hflfN
    simp only [efN, Int.toNat_natCast, b4fN] at c1
    obtain ⟨rN, hrN, rfl, erN⟩ := nat_of c1.2
    obtain ⟨rtfNrN, rafNrN, rbfNrN, rcfNrN, ⟨t0fNrN, t1fNrN, t2fNrN⟩, ⟨u0fNrN, u1fNrN, u2fNrN⟩, ⟨v0fNrN, v1fNrN, v2fNrN⟩, ⟨z0fNrN, z1fNrN, z2fNrN⟩⟩ := wrn (wRfN rN (by omega))
    obtain ⟨rffNrN, rsfNrN, cfNrN, mfNrN, bbfNrN, rrfNrN, cofNrN, bnfNrN, ttfNrN⟩ := xrfN rN (by unfold nRof; rw [b4fN, Int.toNat_natCast]; omega)
    have cmfNrN := cofNrN.2.2.1
    have c781fNrN := cofNrN.2.2.2.1
    obtain ⟨ns, hCk, hvn, hpf, hln, hnl, hn0⟩ := hLY cfNrN cofNrN.1.1
    obtain ⟨hmm, hnin⟩ := cofNrN.nin hCk hvn hnl (by omega)
    have htx := tx_spt hV (b := bbfNrN) (by omega) hnt6 hvn hnin (ns.length - 1) (by omega)
    have hrt : rtfNrN = bbfNrN + (ns.length - 1) := by have e := t1fNrN; rw [ttfNrN, nI_toInt (by omega)] at e; omega
    by_cases hfx : 1000 ≤ (G (174 + 84 * fN + 60 + 4 * rN + 1)).toInt
    · skip
      have hf : I (ru 0 fN rN) 1 = nI (rafNrN - 1000) := by rw [rffNrN hfx, u0fNrN]; exact eq_nI (by rw [nI_sub_toInt (by omega) (by omega)]; omega)
      refine r_aload_n (x := some 0) (pc2 := 17) d_X_spelled_16 rfl rfl ?_
      refine q_getR (x := some 740) (pc2 := 20) d_X_spelled_17 rfl k_X_63 rfl (sh_0 hS) (rf_0_11 hR) ?_
      refine r_aload_n (x := some 0) (pc2 := 21) d_X_spelled_20 rfl rfl ?_
      refine r_iload_n (pc2 := 22) d_X_spelled_21 rfl rfl ?_
      refine r_iload_n (pc2 := 23) d_X_spelled_22 rfl rfl ?_
      refine q_callv (M2 := mi_X_ruleAt) (pc2 := 26) d_X_spelled_23 rfl k_X_125 cm_X_ruleAt cv_X_ruleAt (sh_0 hS) (by decide) rfl rfl rfl (Nat.le_of_ble_eq_true rfl) (c_X_ruleAt (I := I) (F := fN) (r := rN) hS hR (by omega) (by omega)) (d2 := d - 1) (by omega) (Nat.le_of_eq (Nat.zero_add _)) (Nat.le_of_eq (Nat.zero_add _)) ?_
      refine r_callv (M2 := mi_Sp_spell) (pc2 := 29) d_X_spelled_26 rfl k_X_374 cm_Sp_spell cv_Sp_spell (sh_740 hS) (by decide) rfl rfl rfl (Nat.le_of_ble_eq_true rfl) (k_Sp_spell_F (J := I) hS hR (q := ru 0 fN rN) (sh_ru hS (show 0 < 3 by decide) (show fN < 12 by omega) (show rN < 6 by omega)) (sh_rp hS (show 0 < 3 by decide) (show fN < 12 by omega) (show rN < 6 by omega)) (rf_rp hR (show 0 < 3 by decide) (show fN < 12 by omega) (show rN < 6 by omega)) (by unfold ru fe; omega) rrfNrN hCk c781fNrN hvn hnl hn0 hpf hln (v := rafNrN - 1000) (by omega) hf (by omega)) (d2 := d - 1) (by omega) (Nat.le_of_eq (Nat.zero_add _)) (Nat.le_of_eq (Nat.zero_add _)) (fun r2 h2 hq2 => ?_)
      obtain ⟨rfl, K, rfl, hfK, hzK, hwK⟩ := hq2
      refine r_aload_n (x := some 0) (pc2 := 30) d_X_spelled_29 rfl rfl ?_
      refine q_getR (x := some 740) (pc2 := 33) d_X_spelled_30 rfl k_X_63 rfl (sh_0 hS) (rf_0_11 hR) ?_
      refine r_iload_n (pc2 := 34) d_X_spelled_33 rfl rfl ?_
      have htl := tx_len hvn (ns.length - 1) (by omega)
      have hd1 := dgN_b (v := rafNrN - 1000)
      have hll : (tx ns (ns.length - 1) ++ nI 58 :: spn (rafNrN - 1000)).length ≤ 270 := by rw [List.length_append, List.length_cons, htl, (spn_g (show rafNrN - 1000 < 1000000 by omega)).1]; omega
      refine q_callv (M2 := mi_Sp_letterAt) (pc2 := 37) d_X_spelled_34 rfl k_X_378 cm_Sp_letterAt cv_Sp_letterAt (sh_740 hS) (by decide) rfl rfl rfl (Nat.le_of_ble_eq_true rfl) (k_Sp_letterAt (J := K) hS hR hzK hwK hll) (d2 := d - 1) (by omega) (Nat.le_of_eq (Nat.zero_add _)) (Nat.le_of_eq (Nat.zero_add _)) ?_
      refine Run.ret (some (.int (fnd i (tx ns (ns.length - 1) ++ nI 58 :: spn (rafNrN - 1000))))) d_X_spelled_37 ⟨_, rfl⟩ ?_
      exact XP.val (by unfold o_spelled; simp only [efN, erN, Int.toNat_natCast]; rw [if_pos (by omega), if_pos (by omega), t1fNrN, Int.toNat_natCast, hrt, htx, if_pos hfx, u1fNrN, Int.toNat_natCast]) FrXR.rf (fun a j q => hfK a j (by have := scX_731 q; omega))
    · skip
      obtain ⟨hf, ha, hb, he⟩ := rsfNrN hfx
      rw [u0fNrN] at ha
      rw [v0fNrN] at hb
      rw [z0fNrN] at he
      refine r_aload_n (x := some 0) (pc2 := 17) d_X_spelled_16 rfl rfl ?_
      refine q_getR (x := some 740) (pc2 := 20) d_X_spelled_17 rfl k_X_63 rfl (sh_0 hS) (rf_0_11 hR) ?_
      refine r_aload_n (x := some 0) (pc2 := 21) d_X_spelled_20 rfl rfl ?_
      refine r_iload_n (pc2 := 22) d_X_spelled_21 rfl rfl ?_
      refine r_iload_n (pc2 := 23) d_X_spelled_22 rfl rfl ?_
      refine q_callv (M2 := mi_X_ruleAt) (pc2 := 26) d_X_spelled_23 rfl k_X_125 cm_X_ruleAt cv_X_ruleAt (sh_0 hS) (by decide) rfl rfl rfl (Nat.le_of_ble_eq_true rfl) (c_X_ruleAt (I := I) (F := fN) (r := rN) hS hR (by omega) (by omega)) (d2 := d - 1) (by omega) (Nat.le_of_eq (Nat.zero_add _)) (Nat.le_of_eq (Nat.zero_add _)) ?_
      refine r_callv (M2 := mi_Sp_spell) (pc2 := 29) d_X_spelled_26 rfl k_X_374 cm_Sp_spell cv_Sp_spell (sh_740 hS) (by decide) rfl rfl rfl (Nat.le_of_ble_eq_true rfl) (k_Sp_spell_S (J := I) hS hR (q := ru 0 fN rN) (sh_ru hS (show 0 < 3 by decide) (show fN < 12 by omega) (show rN < 6 by omega)) (sh_rp hS (show 0 < 3 by decide) (show fN < 12 by omega) (show rN < 6 by omega)) (rf_rp hR (show 0 < 3 by decide) (show fN < 12 by omega) (show rN < 6 by omega)) (by unfold ru fe; omega) rrfNrN hCk c781fNrN hvn hnl hn0 hpf hln (a := rafNrN) (b := rbfNrN) (e := rcfNrN) (by omega) (by omega) (by omega) hf ha hb he (by omega)) (d2 := d - 1) (by omega) (Nat.le_of_eq (Nat.zero_add _)) (Nat.le_of_eq (Nat.zero_add _)) (fun r2 h2 hq2 => ?_)
      obtain ⟨rfl, K, rfl, hfK, hzK, hwK⟩ := hq2
      refine r_aload_n (x := some 0) (pc2 := 30) d_X_spelled_29 rfl rfl ?_
      refine q_getR (x := some 740) (pc2 := 33) d_X_spelled_30 rfl k_X_63 rfl (sh_0 hS) (rf_0_11 hR) ?_
      refine r_iload_n (pc2 := 34) d_X_spelled_33 rfl rfl ?_
      have htl := tx_len hvn (ns.length - 1) (by omega)
      have hd1 := dgN_b (v := rafNrN)
      have hd2 := dgN_b (v := rbfNrN)
      have hd3 := dgN_b (v := rcfNrN)
      have h3 : ∀ x, x ≤ 333 → dgN x ≤ 3 := fun x hx => by unfold dgN; (repeat' split) <;> omega
      have hda := h3 rafNrN (by omega)
      have hdb := h3 rbfNrN (by omega)
      have hdc := h3 rcfNrN (by omega)
      have hll : (tx ns (ns.length - 1) ++ nI 37 :: (spn rafNrN ++ nI 44 :: (spn rbfNrN ++ nI 44 :: spn rcfNrN))).length ≤ 270 := by rw [List.length_append, List.length_cons, List.length_append, List.length_cons, List.length_append, List.length_cons, htl, (spn_g (show rafNrN < 1000000 by omega)).1, (spn_g (show rbfNrN < 1000000 by omega)).1, (spn_g (show rcfNrN < 1000000 by omega)).1]; omega
      refine q_callv (M2 := mi_Sp_letterAt) (pc2 := 37) d_X_spelled_34 rfl k_X_378 cm_Sp_letterAt cv_Sp_letterAt (sh_740 hS) (by decide) rfl rfl rfl (Nat.le_of_ble_eq_true rfl) (k_Sp_letterAt (J := K) hS hR hzK hwK hll) (d2 := d - 1) (by omega) (Nat.le_of_eq (Nat.zero_add _)) (Nat.le_of_eq (Nat.zero_add _)) ?_
      refine Run.ret (some (.int (fnd i (tx ns (ns.length - 1) ++ nI 37 :: (spn rafNrN ++ nI 44 :: (spn rbfNrN ++ nI 44 :: spn rcfNrN)))))) d_X_spelled_37 ⟨_, rfl⟩ ?_
      exact XP.val (by unfold o_spelled; simp only [efN, erN, Int.toNat_natCast]; rw [if_pos (by omega), if_pos (by omega), t1fNrN, Int.toNat_natCast, hrt, htx, if_neg hfx, u1fNrN, v1fNrN, z1fNrN, Int.toNat_natCast, Int.toNat_natCast, Int.toNat_natCast]) FrXR.rf (fun a j q => hfK a j (by have := scX_731 q; omega))
  · refine r_aload_n (x := some 0) (pc2 := 10) d_X_spelled_9 rfl rfl ?_
    refine r_bipush (v := (-32 : Int32)) (pc2 := 12) d_X_spelled_10 rfl (by decide) ?_
    refine q_callv (M2 := mi_X_refuse) (pc2 := 15) d_X_spelled_12 rfl k_X_75 cm_X_refuse cv_X_refuse (sh_0 hS) (by decide) rfl rfl rfl (Nat.le_of_ble_eq_true rfl) (c_X_refuse_0 (J := I) hS hR) (d2 := d - 1) (by omega) (Nat.le_of_eq (Nat.zero_add _)) (Nat.le_of_eq (Nat.zero_add _)) ?_
    obtain ⟨I2, hI2⟩ : ∃ x, x = u2 I 744 0 (I 744 0 + nI 1) := ⟨_, rfl⟩
    rw [← hI2]
    refine Run.ret (some (.int ((-32 : Int32)))) d_X_spelled_15 ⟨_, rfl⟩ ?_
    exact XP.bad hS 0 (by (unfold o_spelled); (try dsimp only); (try simp only [Int.toNat_natCast]); (repeat (first | rw [if_pos (by omega)] | rw [if_neg (by omega)])); (try rfl); (all_goals first | rfl | (congr 2 <;> omega) | ((repeat' split) <;> first | rfl | (exfalso; omega) | (congr 2 <;> omega) | skip))) (by decide) FrXR.rf FrX.rf hI2
