/-! THE CLASS: an answer -/
/-- what rules tell -/
def wo3 (G : Nat → Int32) (tb : Nat → Bool) (key : Int32) (F : Nat) : Int32 × Int32 × Int32 := match fst1 (fun r => tb (G (174 + 84 * F + 60 + 4 * r + 0)).toInt.toNat) (G (174 + 84 * F + 4)).toInt.toNat with
    | some r => (if 1000 ≤ (G (174 + 84 * F + 60 + 4 * r + 1)).toInt then G (174 + 84 * F + 60 + 4 * r + 1) - nI 1000 else shV (bkt (nI (F + 1)) key).toInt (G (174 + 84 * F + 60 + 4 * r + 1)) (G (174 + 84 * F + 60 + 4 * r + 2)) (G (174 + 84 * F + 60 + 4 * r + 3)), 6, nI r)
    | none => (G (174 + 84 * F + 3), 7, -1)
theorem wo2_eq {G : Nat → Int32} {tb : Nat → Bool} {key : Int32} {p F : Nat} : wo2 G tb key p F = (if 0 ≤ (G (174 + 84 * F + 7)).toInt ∧ ¬ ((G (174 + 84 * F + 8)).toInt ≤ (bkt (G (174 + 84 * F + 7) + nI 100) key).toInt ∧ (bkt (G (174 + 84 * F + 7) + nI 100) key).toInt ≤ (G (174 + 84 * F + 9)).toInt) then (0, 4, G (174 + 84 * F + 7))
  else if 0 < (G (174 + 84 * F + (36 + p))).toInt then (G (174 + 84 * F + (36 + p)), 5, -1) else wo3 G tb key F) := rfl
abbrev TRK (tK tF tC tS : Nat → Int32) : Int32 → Nat → Nat → Bool := fun key att t => trt tK tF tC tS key att t
theorem CO.frN {K F C S : Nat → Int32} {I J : Nat → Nat → Int32} {R : Nat → Nat → Option Nat} {sh : Nat → Nat × Nat} {c m b A : Nat} (hA : A = 718 ∨ A = 723) (h : CO K F C S I R sh c m b) (hJ : FrN sh A I J) : CO K F C S J R sh c m b := h.fr (fun a j h1 h2 => hJ a j (by omega) h2) (fun _ _ _ => rfl)
theorem kpV_iff {x : Int32} (hx : 0 ≤ x.toInt ∧ x.toInt ≤ 3) : ((kpV x).toInt = -1 ↔ ¬ 0 < x.toInt) ∧ (0 < x.toInt → kpV x = x) := by
  unfold kpV
  by_cases h : 0 < x.toInt
  · rw [if_pos h]; exact ⟨⟨fun q => by omega, fun q => absurd h q⟩, fun _ => rfl⟩
  · rw [if_neg h]; exact ⟨⟨fun _ => h, fun _ => by decide⟩, fun q => absurd q h⟩
theorem l_X_decideAlone {d : Nat} {I : Nat → Nat → Int32} {R : Nat → Nat → Option Nat} {L : Nat → Nat → Int64} {sh : Nat → Nat × Nat} {N : Nat} (hS : ShOK sh) (hR : RfOK R) {tK tF tC tS : Nat → Int32} {nt : Nat} (hV : TV tK tF tC nt) (hV2 : TV2 tK tF tC tS nt) (hnt6 : nt ≤ 1000000) {G : Nat → Int32} {nP nF nS e : Nat} (he : e < 3) (hW : WFA G nP nF nt) (hD : DR tK tF tC tS I R sh nt e G nP nF nS) {An : Nat → Int32 × Int32 × Int32} {A : Nat} (hA : A = 718 ∨ A = 723) {p : Nat} (hp : p < nP) {F : Nat} (hF : F < nF) {l : List Nat} (hl : F ∉ l) (hll : l.length < 12) (hl12 : ∀ x ∈ l, x < 12) (hAn : An F = wo3 G (fun t => TRK tK tF tC tS (G (6 + 2 * p)) (G (6 + 2 * p + 1)).toInt.toNat t) (G (6 + 2 * p)) F) (hd : 5 ≤ d) : ∀ (n_ : Nat) (r : Nat) (J : Nat → Nat → Int32), (G (174 + 84 * F + 4)).toInt.toNat - r = n_ → (FrN sh A I J) → (AS An A l J) → (∀ j, j < r → (fun t => TRK tK tF tC tS (G (6 + 2 * p)) (G (6 + 2 * p + 1)).toInt.toNat t) (G (174 + 84 * F + 60 + 4 * j + 0)).toInt.toNat = false) → (r ≤ (G (174 + 84 * F + 4)).toInt.toNat) → Run mi_X_decideAlone d 0 0 90 [(0, .ref (fe e F)), (1, .int (nI F)), (2, .ref (dk e + 1)), (3, .ref A), (4, .int (nI p)), (5, .int (G (6 + 2 * p))), (6, .int (nI r))] [] (J, R, L, sh, N) (fun r h2 => r = none ∧ ∃ K, h2 = (K, R, L, sh, N) ∧ FrN sh A I K ∧ AS An A (l ++ [F]) K) := by
  intro n_
  induction n_ using Nat.strongRecOn with | ind n_ ih_ => ?_
  intro r J hn_ v0_ v1_ v2_ v3_
  obtain ⟨hPc, hP24, hFc, hF12, hWF, hWP⟩ := id hW
  have hF12b : F < 12 := by omega
  have hfl := fe_lt he hF12b
  obtain ⟨att, hatt, hatt2⟩ : ∃ a : Nat, G (6 + 2 * p + 1) = nI a ∧ (G (6 + 2 * p + 1)).toInt = (a : Int) := ⟨(G (6 + 2 * p + 1)).toInt.toNat, eq_nI (Int.toNat_of_nonneg (hWP p hp).1.1).symm, (Int.toNat_of_nonneg (hWP p hp).1.1).symm⟩
  have hatt9 : att ≤ 9999 := by have := (hWP p hp).1.2; omega
  obtain ⟨tpF, klF, skF, fbF, nRF, nNF, nOF, frF, toF, ⟨a0F, b0F, cc0F, dd0F⟩, ⟨a1F, b1F, cc1F, dd1F⟩, ⟨a2F, b2F, cc2F, dd2F⟩, ⟨a3F, b3F, cc3F, dd3F⟩, ⟨a4F, b4F, cc4F, dd4F⟩, ⟨a5F, b5F, cc5F, dd5F⟩, ⟨a6F, b6F, cc6F, dd6F⟩, ⟨a8F, b8F, cc8F, dd8F⟩, ⟨a9F, b9F, cc9F, dd9F⟩⟩ := wfn (hWF F (by omega))
  obtain ⟨-, -, -, -, -, -, -, w7F, -, -, wNF, wRF, wKF, wOF⟩ := hWF F (by omega)
  obtain ⟨⟨x0F, x1F, x2F, x3F, x4F, x5F, x6F, x7F, x8F⟩, xnF, xoF, xkF, xcF, xrF⟩ := hD.2.2.2.1 F (by omega)
  have hj0 : J (fe e F) = I (fe e F) := v0_.row (by omega) (by rw [sh_fe0 hS he hF12b]; decide)
  have hj1 : J (fe e F + 4) = I (fe e F + 4) := v0_.row (by omega) (by rw [sh_fe4 hS he hF12b]; show 12 ≠ 14; decide)
  have hj2 : J (fe e F + 5) = I (fe e F + 5) := v0_.row (by omega) (by rw [sh_fe5 hS he hF12b]; show 12 ≠ 14; decide)
  have hj3 : J (dk e + 2) = I (dk e + 2) := v0_.row (by omega) (by rw [(sh_dks hS he).2.2.1]; show 12 ≠ 14; decide)
  have hj4 : J (dk e + 3) = I (dk e + 3) := v0_.row (by omega) (by rw [(sh_dks hS he).2.2.2.1]; show 12 ≠ 14; decide)
  refine r_iload (pc2 := 92) d_X_decideAlone_90 rfl rfl ?_
  refine r_aload_n (x := some (fe e F)) (pc2 := 93) d_X_decideAlone_92 rfl rfl ?_
  refine q_getI (x := nI nRF) (pc2 := 96) d_X_decideAlone_93 rfl k_X_236 (by decide) (sh_fe0 hS he hF12b) ((congrFun hj0 _).trans (x4F.trans a4F)) ?_
  refine q_icmp_ge (tgt := 176) (A := ((r : Nat) : Int)) (B := ((nRF : Nat) : Int)) (pc2 := 99) d_X_decideAlone_96 rfl rfl (nI_toInt (by omega)) (nI_toInt (by omega)) (fun c1 => ?_) (fun c1 => ?_)
  · refine r_aload_n (x := some A) (pc2 := 177) d_X_decideAlone_176 rfl rfl ?_
    refine r_iload_n (pc2 := 178) d_X_decideAlone_177 rfl rfl ?_
    refine r_aload_n (x := some (fe e F)) (pc2 := 179) d_X_decideAlone_178 rfl rfl ?_
    refine q_getI (x := nI fbF) (pc2 := 182) d_X_decideAlone_179 rfl k_X_229 (by decide) (sh_fe0 hS he hF12b) ((congrFun hj0 _).trans (x3F.trans a3F)) ?_
    refine r_bipush (v := nI 7) (pc2 := 184) d_X_decideAlone_182 rfl (by decide) ?_
    refine r_iconst (v := (-1 : Int32)) (pc2 := 185) d_X_decideAlone_184 rfl (by decide) ?_
    refine r_callv (M2 := mi_An_put) (pc2 := 188) d_X_decideAlone_185 rfl k_X_451 cm_An_put cv_An_put ((an_sh hS hA).1) (by decide) rfl rfl rfl (Nat.le_of_ble_eq_true rfl) (c_An_put (I := I) (J := J) (v := nI fbF) (b := nI 7) (c := (-1 : Int32)) hS hR hA v0_ v1_ (F := F) (by omega) hl hll hl12 (by rw [hAn]; unfold wo3; rw [fst1_none (fun j hj => v2_ j (by rw [b4F] at hj; omega))]; dsimp only; rw [a3F]; rfl)) (d2 := d - 1) (by omega) (Nat.le_of_eq (Nat.zero_add _)) (Nat.le_of_eq (Nat.zero_add _)) (fun r2 h2 hq2 => ?_)
    obtain ⟨rfl, K, rfl, hK1, hK2⟩ := hq2
    change Run _ _ _ _ _ _ [] _ _
    refine Run.ret none d_X_decideAlone_188 rfl ?_
    exact ⟨rfl, K, rfl, hK1, hK2⟩
  · obtain ⟨rtFr, raFr, rbFr, rcFr, ⟨t0Fr, t1Fr, t2Fr⟩, ⟨u0Fr, u1Fr, u2Fr⟩, ⟨v0Fr, v1Fr, v2Fr⟩, ⟨z0Fr, z1Fr, z2Fr⟩⟩ := wrn (wRF r (by omega))
    obtain ⟨rfFr, rsFr, cFr, mFr, bbFr, rrFr, coFr, bnFr, ttFr⟩ := xrF r (by unfold nRof; rw [b4F, Int.toNat_natCast]; omega)
    have cmFr := coFr.2.2.1
    have c781Fr := coFr.2.2.2.1
    have hjr : J (ru e F r) = I (ru e F r) := v0_.row (by unfold ru; omega) (by rw [sh_ru hS he hF12b (show r < 6 by omega)]; decide)
    have hjp : J (ru e F r + 1) = I (ru e F r + 1) := v0_.row (by unfold ru; omega) (by rw [sh_rp hS he hF12b (show r < 6 by omega)]; show 12 ≠ 14; decide)
    have coJ := coFr.frN hA v0_
    refine r_aload_n (x := some (fe e F)) (pc2 := 100) d_X_decideAlone_99 rfl rfl ?_
    refine q_getR (x := some (fe e F + 1)) (pc2 := 103) d_X_decideAlone_100 rfl k_X_239 rfl (sh_fe0 hS he hF12b) (rf_fe_4 hR he (show F < 12 by omega)) ?_
    refine r_iload (pc2 := 105) d_X_decideAlone_103 rfl rfl ?_
    refine q_aaload (q := r) (x := some (ru e F r)) (pc2 := 106) d_X_decideAlone_105 rfl (sh_fe1 hS he (show F < 12 by omega)) (by decide) (by decide) (nI_toInt (by omega)) (by omega) (rf_ru hR he (show F < 12 by omega) (show r < 6 by omega)) ?_
    refine q_getR (x := some cFr) (pc2 := 109) d_X_decideAlone_106 rfl k_X_129 rfl (sh_ru hS he (show F < 12 by omega) (show r < 6 by omega)) rrFr ?_
    refine r_astore (x := some cFr) (pc2 := 111) d_X_decideAlone_109 rfl (Nat.le_of_ble_eq_true rfl) ?_
    refine r_aload (x := some cFr) (pc2 := 113) d_X_decideAlone_111 rfl rfl ?_
    refine r_ifnull (x := some cFr) (tgt := 170) (pc2 := 116) d_X_decideAlone_113 rfl rfl (fun c2 => ?_) (fun _ c2 => ?_)
    · cases c2
    ·
      refine r_aload (x := some cFr) (pc2 := 118) d_X_decideAlone_116 rfl rfl ?_
      refine r_aload (x := some cFr) (pc2 := 120) d_X_decideAlone_118 rfl rfl ?_
      refine q_callv (M2 := mi_Co_root) (pc2 := 123) d_X_decideAlone_120 rfl k_X_135 cm_Co_root cv_Co_root coFr.1.1 (by decide) rfl rfl rfl (Nat.le_of_ble_eq_true rfl) (c_Co_root (I := J) coJ) (d2 := d - 1) (by omega) (Nat.le_of_eq (Nat.zero_add _)) (Nat.le_of_eq (Nat.zero_add _)) ?_
      refine r_iload (pc2 := 125) d_X_decideAlone_123 rfl rfl ?_
      refine r_aload_n (x := some (dk e + 1)) (pc2 := 126) d_X_decideAlone_125 rfl rfl ?_
      refine q_getR (x := some (dk e + 3)) (pc2 := 129) d_X_decideAlone_126 rfl k_X_195 rfl ((sh_dks hS he).2.1) ((rf_dk hR he).2.2.2.2.1) ?_
      refine r_iload (pc2 := 131) d_X_decideAlone_129 rfl rfl ?_
      refine q_iaload (q := p) (x := nI att) (pc2 := 132) d_X_decideAlone_131 rfl ((sh_dks hS he).2.2.2.1) (nI_toInt (by omega)) (by omega) ((congrFun hj4 _).trans ((hD.2.1 p (by omega)).2.trans hatt)) ?_
      refine r_callv (M2 := mi_Co_isSo) (pc2 := 135) d_X_decideAlone_132 rfl k_X_426 cm_Co_isSo cv_Co_isSo coFr.1.1 (by decide) rfl rfl rfl (Nat.le_of_ble_eq_true rfl) (c_Co_isSo (I := J) hV hV2 coJ bnFr hnt6 (n := mFr - 1) (by omega) (key := G (6 + 2 * p)) (att := att) hatt9 (d := d - 1) (by omega)) (d2 := d - 1) (by omega) (Nat.le_of_eq (Nat.zero_add _)) (Nat.le_of_eq (Nat.zero_add _)) (fun r2 h2 hq2 => ?_)
      obtain ⟨J2, rfl, rfl, hJ2c⟩ := hq2
      change Run _ _ _ _ _ _ [.int (bI (trt tK tF tC tS (G (6 + 2 * p)) att (bbFr + (mFr - 1)) = true))] _ _
      have hJ2 : FrN sh A I J2 := v0_.tr (FrN.co coJ.1.2.2.2.2.2 hJ2c)
      have hAS2 := v1_.fr (K := J2) (fun a h1 h2 => hJ2c a (by omega))
      have hj0b : J2 (fe e F) = I (fe e F) := hJ2.row (by omega) (by rw [sh_fe0 hS he hF12b]; decide)
      have hj1b : J2 (fe e F + 4) = I (fe e F + 4) := hJ2.row (by omega) (by rw [sh_fe4 hS he hF12b]; show 12 ≠ 14; decide)
      have hj2b : J2 (fe e F + 5) = I (fe e F + 5) := hJ2.row (by omega) (by rw [sh_fe5 hS he hF12b]; show 12 ≠ 14; decide)
      have hj3b : J2 (dk e + 2) = I (dk e + 2) := hJ2.row (by omega) (by rw [(sh_dks hS he).2.2.1]; show 12 ≠ 14; decide)
      have hj4b : J2 (dk e + 3) = I (dk e + 3) := hJ2.row (by omega) (by rw [(sh_dks hS he).2.2.2.1]; show 12 ≠ 14; decide)
      have hjrb : J2 (ru e F r) = I (ru e F r) := hJ2.row (by unfold ru; omega) (by rw [sh_ru hS he hF12b (show r < 6 by omega)]; decide)
      have hjpb : J2 (ru e F r + 1) = I (ru e F r + 1) := hJ2.row (by unfold ru; omega) (by rw [sh_rp hS he hF12b (show r < 6 by omega)]; show 12 ≠ 14; decide)
      have htb : (fun t => TRK tK tF tC tS (G (6 + 2 * p)) (G (6 + 2 * p + 1)).toInt.toNat t) (G (174 + 84 * F + 60 + 4 * r + 0)).toInt.toNat = trt tK tF tC tS (G (6 + 2 * p)) att (bbFr + (mFr - 1)) := by
        show trt tK tF tC tS (G (6 + 2 * p)) (G (6 + 2 * p + 1)).toInt.toNat (G (174 + 84 * F + 60 + 4 * r + 0)).toInt.toNat = _
        rw [ttFr, hatt2, nI_toInt (by omega), Int.toNat_natCast, Int.toNat_natCast, show bbFr + mFr - 1 = bbFr + (mFr - 1) by omega]
      refine q_bif_eq (tgt := 170) (pc2 := 138) d_X_decideAlone_135 rfl rfl (fun c3 => ?_) (fun c3 => ?_)
      · refine q_iinc (b := 1) (pc2 := 173) d_X_decideAlone_170 rfl rfl (by decide) (Nat.le_of_ble_eq_true rfl) ?_
        refine r_goto (tgt := 90) d_X_decideAlone_173 rfl ?_
        refine Run.sub (l2 := [(0, .ref (fe e F)), (1, .int (nI F)), (2, .ref (dk e + 1)), (3, .ref A), (4, .int (nI p)), (5, .int (G (6 + 2 * p))), (6, .int (nI (r + 1)))]) ⟨rfl, rfl, rfl, rfl, rfl, rfl, rfl, trivial⟩ ?_
        exact ih_ ((G (174 + 84 * F + 4)).toInt.toNat - (r + 1)) (by omega) (r + 1) J2 rfl (hJ2) (hAS2) (fun j hj => by
          rcases Nat.lt_or_ge j r with q | q
          · exact v2_ j q
          · rw [show j = r by omega, htb]; exact Bool.eq_false_iff.mpr c3) (by omega)
      · refine r_aload_n (x := some (fe e F)) (pc2 := 139) d_X_decideAlone_138 rfl rfl ?_
        refine q_getR (x := some (fe e F + 1)) (pc2 := 142) d_X_decideAlone_139 rfl k_X_239 rfl (sh_fe0 hS he hF12b) (rf_fe_4 hR he (show F < 12 by omega)) ?_
        refine r_iload (pc2 := 144) d_X_decideAlone_142 rfl rfl ?_
        refine q_aaload (q := r) (x := some (ru e F r)) (pc2 := 145) d_X_decideAlone_144 rfl (sh_fe1 hS he (show F < 12 by omega)) (by decide) (by decide) (nI_toInt (by omega)) (by omega) (rf_ru hR he (show F < 12 by omega) (show r < 6 by omega)) ?_
        refine r_iload_n (pc2 := 146) d_X_decideAlone_145 rfl rfl ?_
        refine r_iconst (v := nI 1) (pc2 := 147) d_X_decideAlone_146 rfl (by decide) ?_
        refine q_iaddN (pc2 := 148) d_X_decideAlone_147 rfl ?_
        refine r_iload (pc2 := 150) d_X_decideAlone_148 rfl rfl ?_
        refine q_calls (M2 := mi_X_bucketBy) (pc2 := 153) d_X_decideAlone_150 rfl k_X_205 cm_X_bucketBy cs_X_bucketBy rfl rfl (Nat.le_of_ble_eq_true rfl) (c_X_bucketBy (s := nI (F + 1)) (k := G (6 + 2 * p))) (d2 := d - 1) (by omega) (Nat.le_of_eq (Nat.zero_add _)) (Nat.le_of_eq (Nat.zero_add _)) ?_
        obtain ⟨B, hB⟩ : ∃ B, B = bkt (nI (F + 1)) (G (6 + 2 * p)) := ⟨_, rfl⟩
        have hbr : 0 ≤ B.toInt ∧ B.toInt < 1000 := by rw [hB]; exact bkt_rng _ _
        rw [← hB]
        by_cases hfx : 1000 ≤ (G (174 + 84 * F + 60 + 4 * r + 1)).toInt
        · skip
          refine q_callv (M2 := mi_Ru_variantOf) (pc2 := 156) d_X_decideAlone_153 rfl k_X_463 cm_Ru_variantOf cv_Ru_variantOf (sh_ru hS he (show F < 12 by omega) (show r < 6 by omega)) (by decide) rfl rfl rfl (Nat.le_of_ble_eq_true rfl) (c_Ru_variantOfF (J := J2) (Bx := B) (sh_ru hS he hF12b (show r < 6 by omega)) (sh_rp hS he hF12b (show r < 6 by omega)) (rf_rp hR he hF12b (show r < 6 by omega)) ((congrFun hjrb _).trans (rfFr (by omega))) (by rw [u0Fr, nI_sub_toInt (by omega) (by omega)]; omega) (d := d - 1) (by omega)) (d2 := d - 1) (by omega) (Nat.le_of_eq (Nat.zero_add _)) (Nat.le_of_eq (Nat.zero_add _)) ?_
          refine r_istore (pc2 := 158) d_X_decideAlone_156 rfl (Nat.le_of_ble_eq_true rfl) ?_
          refine r_aload_n (x := some A) (pc2 := 159) d_X_decideAlone_158 rfl rfl ?_
          refine r_iload_n (pc2 := 160) d_X_decideAlone_159 rfl rfl ?_
          refine r_iload (pc2 := 162) d_X_decideAlone_160 rfl rfl ?_
          refine r_bipush (v := nI 6) (pc2 := 164) d_X_decideAlone_162 rfl (by decide) ?_
          refine r_iload (pc2 := 166) d_X_decideAlone_164 rfl rfl ?_
          refine r_callv (M2 := mi_An_put) (pc2 := 169) d_X_decideAlone_166 rfl k_X_451 cm_An_put cv_An_put ((an_sh hS hA).1) (by decide) rfl rfl rfl (Nat.le_of_ble_eq_true rfl) (c_An_put (I := I) (J := J2) (v := G (174 + 84 * F + 60 + 4 * r + 1) - nI 1000) (b := nI 6) (c := nI r) hS hR hA hJ2 hAS2 (F := F) (by omega) hl hll hl12 (by rw [hAn]; unfold wo3; rw [fst1_some (i := r) v2_ (by rw [htb]; exact c3) (by rw [b4F]; omega)]; dsimp only; rw [← hB, if_pos hfx]; rfl)) (d2 := d - 1) (by omega) (Nat.le_of_eq (Nat.zero_add _)) (Nat.le_of_eq (Nat.zero_add _)) (fun r2 h2 hq2 => ?_)
          obtain ⟨rfl, K, rfl, hK1, hK2⟩ := hq2
          change Run _ _ _ _ _ _ [] _ _
          refine Run.ret none d_X_decideAlone_169 rfl ?_
          exact ⟨rfl, K, rfl, hK1, hK2⟩
        · skip
          refine q_callv (M2 := mi_Ru_variantOf) (pc2 := 156) d_X_decideAlone_153 rfl k_X_463 cm_Ru_variantOf cv_Ru_variantOf (sh_ru hS he (show F < 12 by omega) (show r < 6 by omega)) (by decide) rfl rfl rfl (Nat.le_of_ble_eq_true rfl) (c_Ru_variantOfS (J := J2) (B := B) (sh_ru hS he hF12b (show r < 6 by omega)) (sh_rp hS he hF12b (show r < 6 by omega)) (rf_rp hR he hF12b (show r < 6 by omega)) ((congrFun hjrb _).trans (rsFr hfx).1) ((congrFun hjpb _).trans (rsFr hfx).2.1) ((congrFun hjpb _).trans (rsFr hfx).2.2.1) ((congrFun hjpb _).trans (rsFr hfx).2.2.2) (by omega) (by omega) (by omega) hbr (d := d - 1) (by omega)) (d2 := d - 1) (by omega) (Nat.le_of_eq (Nat.zero_add _)) (Nat.le_of_eq (Nat.zero_add _)) ?_
          refine r_istore (pc2 := 158) d_X_decideAlone_156 rfl (Nat.le_of_ble_eq_true rfl) ?_
          refine r_aload_n (x := some A) (pc2 := 159) d_X_decideAlone_158 rfl rfl ?_
          refine r_iload_n (pc2 := 160) d_X_decideAlone_159 rfl rfl ?_
          refine r_iload (pc2 := 162) d_X_decideAlone_160 rfl rfl ?_
          refine r_bipush (v := nI 6) (pc2 := 164) d_X_decideAlone_162 rfl (by decide) ?_
          refine r_iload (pc2 := 166) d_X_decideAlone_164 rfl rfl ?_
          refine r_callv (M2 := mi_An_put) (pc2 := 169) d_X_decideAlone_166 rfl k_X_451 cm_An_put cv_An_put ((an_sh hS hA).1) (by decide) rfl rfl rfl (Nat.le_of_ble_eq_true rfl) (c_An_put (I := I) (J := J2) (v := shV (B).toInt (G (174 + 84 * F + 60 + 4 * r + 1)) (G (174 + 84 * F + 60 + 4 * r + 2)) (G (174 + 84 * F + 60 + 4 * r + 3))) (b := nI 6) (c := nI r) hS hR hA hJ2 hAS2 (F := F) (by omega) hl hll hl12 (by rw [hAn]; unfold wo3; rw [fst1_some (i := r) v2_ (by rw [htb]; exact c3) (by rw [b4F]; omega)]; dsimp only; rw [← hB, if_neg hfx]; rfl)) (d2 := d - 1) (by omega) (Nat.le_of_eq (Nat.zero_add _)) (Nat.le_of_eq (Nat.zero_add _)) (fun r2 h2 hq2 => ?_)
          obtain ⟨rfl, K, rfl, hK1, hK2⟩ := hq2
          change Run _ _ _ _ _ _ [] _ _
          refine Run.ret none d_X_decideAlone_169 rfl ?_
          exact ⟨rfl, K, rfl, hK1, hK2⟩
