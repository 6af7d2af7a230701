/-! THE CLASS: layer -/
theorem cnt_cg {P Q : Nat → Bool} : ∀ {n : Nat}, (∀ j, j < n → P j = Q j) → cnt P n = cnt Q n
  | 0, _ => rfl
  | n + 1, h => by rw [cnt_s, cnt_s, cnt_cg (fun j hj => h j (by omega)), h n (by omega)]
theorem cnt_tl {P : Nat → Bool} {n : Nat} : ∀ {m : Nat}, n ≤ m → (∀ j, n ≤ j → j < m → P j = false) → cnt P m = cnt P n
  | 0, h, _ => by rw [show n = 0 by omega]
  | m + 1, h, z => by
    rcases Nat.lt_or_ge m n with q | q
    · rw [show n = m + 1 by omega]
    · rw [cnt_s, z m q (by omega), cnt_tl q (fun j a b => z j a (by omega))]; rfl
theorem cnt_no {P : Nat → Bool} {n : Nat} (z : ∀ j, j < n → P j = false) : cnt P n = 0 := (cnt_tl (Nat.zero_le n) (fun j _ b => z j b)).trans rfl
theorem cnt_1 {P Q : Nat → Bool} {x : Nat} : ∀ {n : Nat}, x < n → Q x = true → P x = false → (∀ j, j < n → j ≠ x → Q j = P j) → cnt Q n = cnt P n + 1
  | 0, h, _, _, _ => by omega
  | n + 1, h, a, b, c => by
    rw [cnt_s, cnt_s]
    by_cases q : x = n
    · subst q
      rw [a, b, cnt_cg (P := Q) (Q := P) (fun j hj => c j (by omega) (by omega))]; rfl
    · rw [c n (by omega) (fun z => q z.symm), cnt_1 (x := x) (by omega) a b (fun j hj => c j (by omega))]; omega
theorem oB_is {G : Nat → Int32} {F n : Nat} {key : Int32} : (oB G F n key).isSome = true ↔ ∃ k, k < n ∧ G (174 + 84 * F + (20 + 2 * k)) = key := by
  constructor
  · intro h
    cases e : oB G F n key with
    | none => rw [e] at h; cases h
    | some k =>
      obtain ⟨a, b, -⟩ := fst1_spec (show fst1 _ _ = some k from e)
      exact ⟨k, a, of_decide_eq_true b⟩
  · rintro ⟨k, a, b⟩
    obtain ⟨y, hy⟩ := fst1_ex (P := fun k => decide (G (174 + 84 * F + (20 + 2 * k)) = key)) (decide_eq_true b) a
    rw [show oB G F n key = some y from hy]; rfl
/-- persons of whom a feature has an override are as many as its overrides -/
theorem cnt_ov {G : Nat → Int32} {nP nF E : Nat} (h : WFK G nP nF) (hE : E < nF) : ∀ {m : Nat}, m ≤ nOof G E → cnt (fun p => (oB G E m (G (6 + 2 * p))).isSome) nP = m
  | 0, _ => cnt_no (fun j _ => rfl)
  | m + 1, hm => by
    obtain ⟨⟨x, hx, ex⟩, hu⟩ := h.2.1 E hE m (by omega)
    rw [cnt_1 (P := fun p => (oB G E m (G (6 + 2 * p))).isSome) (x := x) hx (oB_is.mpr ⟨m, by omega, ex.symm⟩) ?_ (fun j hj hjx => ?_), cnt_ov h hE (by omega)]
    · rw [Bool.eq_false_iff]
      intro q
      obtain ⟨k, hk, ek⟩ := oB_is.mp q
      have := hu k (by omega) (ek.trans ex)
      omega
    · rw [Bool.eq_iff_iff, oB_is, oB_is]
      constructor
      · rintro ⟨k, hk, ek⟩
        rcases Nat.lt_or_ge k m with q | q
        · exact ⟨k, q, ek⟩
        · rw [show k = m by omega, ← ex] at ek
          exact absurd (h.1 x j hx hj ek).symm hjx
      · rintro ⟨k, hk, ek⟩
        exact ⟨k, by omega, ek⟩
theorem m1v : (-1 : Int32).toInt = -1 := by decide
/-- the class counts overrides as many as there are -/
theorem FR.nov {K F C S : Nat → Int32} {I : Nat → Nat → Int32} {R : Nat → Nat → Option Nat} {sh : Nat → Nat × Nat} {nt d nP nF E : Nat} {G : Nat → Int32} (hk : WFK G nP nF) (hE : E < nF) (hP : nP ≤ 24) (hw : WFF G nF nt E) (h : FR K F C S I R sh nt d G nP E) : nI (cnt (fun p => decide (I (fe d E + 4) p ≠ -1)) 24) = G (174 + 84 * E + 6) := by
  obtain ⟨tp, kl, sk, fb, nR, nN, nO, fr, to, -, -, -, -, ⟨-, b4, c4, -⟩, ⟨-, b5, c5, -⟩, ⟨a6, b6, c6, -⟩, -⟩ := wfn hw
  obtain ⟨-, -, y3, -, -⟩ := h
  have en : nOof G E = nO := by unfold nOof; rw [b6, Int.toNat_natCast]
  rw [cnt_tl (n := nP) hP (fun j a b => by rw [y3 j b, if_neg (by omega)]; decide), a6, ← cnt_ov (m := nO) hk hE (by omega)]
  congr 1
  rw [cnt_cg (fun j hj => ?_)]
  rw [y3 j (by omega), if_pos hj]
  unfold ovV
  rw [b6, Int.toNat_natCast]
  cases e : oB G E nO (G (6 + 2 * j)) with
  | none => exact decide_eq_false (fun q => q rfl)
  | some k =>
    obtain ⟨a, b, -⟩ := fst1_spec (show fst1 _ _ = some k from e)
    have := hw.2.2.2.2.2.2.2.2.2.2.2.2.2 k (by omega)
    exact decide_eq_true (fun q => by rw [show G (174 + 84 * E + (20 + 2 * k + 1)) = -1 from q, m1v] at this; omega)
theorem FR.nkp {K F C S : Nat → Int32} {I : Nat → Nat → Int32} {R : Nat → Nat → Option Nat} {sh : Nat → Nat × Nat} {nt d nP E : Nat} {G : Nat → Int32} (hP : nP ≤ 24) (h : FR K F C S I R sh nt d G nP E) : nI (cnt (fun p => decide (I (fe d E + 5) p ≠ -1)) 24) = nI (cnt (keptP G E) nP) := by
  obtain ⟨-, -, -, y4, -⟩ := h
  rw [cnt_tl (n := nP) hP (fun j a b => by rw [y4 j b, if_neg (by omega)]; decide), cnt_cg (fun j hj => ?_)]
  rw [y4 j (by omega), if_pos hj]
  unfold kpV keptP
  by_cases q : 0 < (G (174 + 84 * E + (36 + j))).toInt
  · rw [if_pos q, decide_eq_true q]; exact decide_eq_true (fun z => by rw [z, m1v] at q; omega)
  · rw [if_neg q, decide_eq_false q]; decide
theorem DR.layer {K F C S : Nat → Int32} {I J1 J2 J3 : Nat → Nat → Int32} {R : Nat → Nat → Option Nat} {sh : Nat → Nat × Nat} {nt nP nF nS E : Nat} {G : Nat → Int32} {l a b : Int32} (hW : WFA G nP nF nt) (hT : WFT G nF nS) (hE : E < nF) (hl : -1 ≤ l.toInt ∧ l.toInt ≤ 3) (ha : 0 ≤ a.toInt ∧ a.toInt ≤ 999) (hb : 0 ≤ b.toInt ∧ b.toInt ≤ 999) (h : DR K F C S I R sh nt 0 G nP nF nS) (e1 : J1 = u2 I (fe 0 E) 12 l) (e2 : J2 = u2 J1 (fe 0 E) 13 a) (e3 : J3 = u2 J2 (fe 0 E) 14 b) : DR K F C S J3 R sh nt 0 (g_layer1 G E l a b) nP nF nS := by
  have hE12 : E < 12 := by have := hW.2.2.2.1; omega
  have hP : nP ≤ 24 := by have := hW.2.1; omega
  have f1 := hW.2.2.2.2.1 E hE
  have w1 : WFA (u1 G (174 + 84 * E + 7) l) nP nF nt := WFA_one hW hE (fun j hj => u1_o (by omega)) (WFF_7 f1 hl)
  have t1 : WFT (u1 G (174 + 84 * E + 7) l) nF nS := WFT_congr hT (fun j hj => u1_o (by omega))
  have f2 := w1.2.2.2.2.1 E hE
  have w2 : WFA (u1 (u1 G (174 + 84 * E + 7) l) (174 + 84 * E + 8) a) nP nF nt := WFA_one w1 hE (fun j hj => u1_o (by omega)) (WFF_8 f2 ha)
  have t2 : WFT (u1 (u1 G (174 + 84 * E + 7) l) (174 + 84 * E + 8) a) nF nS := WFT_congr t1 (fun j hj => u1_o (by omega))
  have f3 := w2.2.2.2.2.1 E hE
  have d1 := DR.f1 hW hT hE h (fun a j q => rd_ne e1 (by omega)) (fun j hj => u1_o (by omega)) (FR.s12 (by decide) hE12 hP f1 (h.2.2.2.1 E hE) e1)
  have d2 := DR.f1 w1 t1 hE d1 (fun a j q => rd_ne e2 (by omega)) (fun j hj => u1_o (by omega)) (FR.s13 (by decide) hE12 hP f2 (d1.2.2.2.1 E hE) e2)
  exact DR.f1 w2 t2 hE d2 (fun a j q => rd_ne e3 (by omega)) (fun j hj => u1_o (by omega)) (FR.s14 (by decide) hE12 hP f3 (d2.2.2.2.1 E hE) e3)
theorem l_X_countSome {d : Nat} {J : Nat → Nat → Int32} {R : Nat → Nat → Option Nat} {L : Nat → Nat → Int64} {sh : Nat → Nat × Nat} {N : Nat} (hS : ShOK sh) (hR : RfOK R) {A : Nat} (hA : sh A = (12, 24)) {P : Nat → Bool} (hP : P = fun p => decide (J A p ≠ -1)) {Q : Option Value → HS → Prop} (hq : Q (some (.int (nI (cnt P 24)))) (J, R, L, sh, N)) : ∀ (n_ : Nat) (i : Nat), 24 - i = n_ → (i ≤ 24) → Run mi_X_countSome d 0 0 10 [(0, .ref A), (1, .int (nI (cnt P i))), (2, .ref A), (3, .int (nI 24)), (4, .int (nI i))] [] (J, R, L, sh, N) Q := by
  intro n_
  induction n_ using Nat.strongRecOn with | ind n_ ih_ => ?_
  intro i hn_ v0_
  refine r_iload (pc2 := 12) d_X_countSome_10 rfl rfl ?_
  refine r_iload_n (pc2 := 13) d_X_countSome_12 rfl rfl ?_
  refine q_icmp_ge (tgt := 37) (A := ((i : Nat) : Int)) (B := (24 : Int)) (pc2 := 16) d_X_countSome_13 rfl rfl (nI_toInt (by omega)) (nI_toInt (by omega)) (fun c1 => ?_) (fun c1 => ?_)
  · refine r_iload_n (pc2 := 38) d_X_countSome_37 rfl rfl ?_
    refine Run.ret (some (.int (nI (cnt P i)))) d_X_countSome_38 ⟨_, rfl⟩ ?_
    rw [show i = 24 by omega]; exact hq
  · refine r_aload_n (x := some A) (pc2 := 17) d_X_countSome_16 rfl rfl ?_
    refine r_iload (pc2 := 19) d_X_countSome_17 rfl rfl ?_
    refine q_iaload (q := i) (x := J A i) (pc2 := 20) d_X_countSome_19 rfl hA (nI_toInt (by omega)) (by omega) rfl ?_
    refine r_istore (pc2 := 22) d_X_countSome_20 rfl (Nat.le_of_ble_eq_true rfl) ?_
    refine r_iload (pc2 := 24) d_X_countSome_22 rfl rfl ?_
    refine r_iconst (v := (-1 : Int32)) (pc2 := 25) d_X_countSome_24 rfl (by decide) ?_
    refine q_icmp_eq (tgt := 31) (A := (J A i).toInt) (B := (-1 : Int)) (pc2 := 28) d_X_countSome_25 rfl rfl (rfl) (by decide) (fun c2 => ?_) (fun c2 => ?_)
    · refine q_iinc (b := 1) (pc2 := 34) d_X_countSome_31 rfl rfl (by decide) (Nat.le_of_ble_eq_true rfl) ?_
      refine r_goto (tgt := 10) d_X_countSome_34 rfl ?_
      rw [show nI (cnt P i) = nI (cnt P (i + 1)) from by rw [cnt_s, if_neg (by rw [hP]; simp only [decide_eq_true_eq]; exact fun q => q (Int32.toInt_inj.mp (by rw [m1v]; exact c2)))]; rfl]
      refine Run.sub (l2 := [(0, .ref A), (1, .int (nI (cnt P (i + 1)))), (2, .ref A), (3, .int (nI 24)), (4, .int (nI (i + 1)))]) ⟨rfl, rfl, rfl, rfl, rfl, trivial⟩ ?_
      exact ih_ (24 - (i + 1)) (by omega) (i + 1) rfl (by omega)
    · refine q_iinc (b := 1) (pc2 := 31) d_X_countSome_28 rfl rfl (by decide) (Nat.le_of_ble_eq_true rfl) ?_
      refine q_iinc (b := 1) (pc2 := 34) d_X_countSome_31 rfl rfl (by decide) (Nat.le_of_ble_eq_true rfl) ?_
      refine r_goto (tgt := 10) d_X_countSome_34 rfl ?_
      rw [show nI (cnt P i + 1) = nI (cnt P (i + 1)) from by rw [cnt_s, if_pos (by rw [hP]; exact decide_eq_true (fun q => by rw [q, m1v] at c2; exact absurd rfl c2))]]
      refine Run.sub (l2 := [(0, .ref A), (1, .int (nI (cnt P (i + 1)))), (2, .ref A), (3, .int (nI 24)), (4, .int (nI (i + 1)))]) ⟨rfl, rfl, rfl, rfl, rfl, trivial⟩ ?_
      exact ih_ (24 - (i + 1)) (by omega) (i + 1) rfl (by omega)
theorem c_X_countSome {d : Nat} {J : Nat → Nat → Int32} {R : Nat → Nat → Option Nat} {L : Nat → Nat → Int64} {sh : Nat → Nat × Nat} {N : Nat} (hS : ShOK sh) (hR : RfOK R) {A : Nat} (hA : sh A = (12, 24)) : Me mi_X_countSome d 0 0 [.ref A] (J, R, L, sh, N) (some (.int (nI (cnt (fun p => decide (J A p ≠ -1)) 24)))) (J, R, L, sh, N) := by
  refine Mt.of pn_X (Nat.le_of_ble_eq_true rfl) ?_
  show Run mi_X_countSome d 0 0 0 [(0, .ref A)] [] (J, R, L, sh, N) _
  refine r_iconst (v := nI 0) (pc2 := 1) d_X_countSome_0 rfl (by decide) ?_
  refine r_istore_n (pc2 := 2) d_X_countSome_1 rfl rfl (Nat.le_of_ble_eq_true rfl) ?_
  refine r_aload_n (x := some A) (pc2 := 3) d_X_countSome_2 rfl rfl ?_
  refine r_astore_n (x := some A) (pc2 := 4) d_X_countSome_3 rfl rfl (Nat.le_of_ble_eq_true rfl) ?_
  refine r_aload_n (x := some A) (pc2 := 5) d_X_countSome_4 rfl rfl ?_
  refine r_alen (pc2 := 6) d_X_countSome_5 rfl hA (by decide) (by decide) ?_
  refine r_istore_n (pc2 := 7) d_X_countSome_6 rfl rfl (Nat.le_of_ble_eq_true rfl) ?_
  refine r_iconst (v := nI 0) (pc2 := 8) d_X_countSome_7 rfl (by decide) ?_
  refine r_istore (pc2 := 10) d_X_countSome_8 rfl (Nat.le_of_ble_eq_true rfl) ?_
  refine Run.sub (l2 := [(0, .ref A), (1, .int (nI 0)), (2, .ref A), (3, .int (nI 24)), (4, .int (nI 0))]) ⟨rfl, rfl, rfl, rfl, rfl, trivial⟩ ?_
  exact l_X_countSome hS hR hA rfl ⟨rfl, rfl⟩ _ 0 rfl (Nat.zero_le _)
theorem c_Fe_takeLayer {d : Nat} {J : Nat → Nat → Int32} {R : Nat → Nat → Option Nat} {L : Nat → Nat → Int64} {sh : Nat → Nat × Nat} {N : Nat} (hS : ShOK sh) (hR : RfOK R) {F : Nat} (hF : F < 12) {l a b : Int32} : Mt mi_Fe_takeLayer d 0 0 [.ref (fe 0 F), .int l, .int a, .int b] (J, R, L, sh, N) (fun r h2 => r = none ∧ ∃ K1 K2 K3, h2 = (K3, R, L, sh, N) ∧ K1 = u2 J (fe 0 F) 12 l ∧ K2 = u2 K1 (fe 0 F) 13 a ∧ K3 = u2 K2 (fe 0 F) 14 b) := by
  refine Mt.of pn_Fe (Nat.le_of_ble_eq_true rfl) ?_
  show Run mi_Fe_takeLayer d 0 0 0 [(0, .ref (fe 0 F)), (1, .int l), (2, .int a), (3, .int b)] [] (J, R, L, sh, N) _
  refine r_aload_n (x := some (fe 0 F)) (pc2 := 1) d_Fe_takeLayer_0 rfl rfl ?_
  refine r_iload_n (pc2 := 2) d_Fe_takeLayer_1 rfl rfl ?_
  refine q_putI (pc2 := 5) d_Fe_takeLayer_2 rfl k_Fe_52 (Or.inl rfl) (sh_fe0 hS (show 0 < 3 by decide) hF) (Or.inl rfl) (fun I1 hI1 => ?_)
  refine r_aload_n (x := some (fe 0 F)) (pc2 := 6) d_Fe_takeLayer_5 rfl rfl ?_
  refine r_iload_n (pc2 := 7) d_Fe_takeLayer_6 rfl rfl ?_
  refine q_putI (pc2 := 10) d_Fe_takeLayer_7 rfl k_Fe_55 (Or.inl rfl) (sh_fe0 hS (show 0 < 3 by decide) hF) (Or.inl rfl) (fun I2 hI2 => ?_)
  refine r_aload_n (x := some (fe 0 F)) (pc2 := 11) d_Fe_takeLayer_10 rfl rfl ?_
  refine r_iload_n (pc2 := 12) d_Fe_takeLayer_11 rfl rfl ?_
  refine q_putI (pc2 := 15) d_Fe_takeLayer_12 rfl k_Fe_58 (Or.inl rfl) (sh_fe0 hS (show 0 < 3 by decide) hF) (Or.inl rfl) (fun I3 hI3 => ?_)
  refine Run.ret none d_Fe_takeLayer_15 rfl ?_
  exact ⟨rfl, _, _, _, rfl, hI1, hI2, hI3⟩
theorem l_De_isTaken {d : Nat} {I : Nat → Nat → Int32} {R : Nat → Nat → Option Nat} {L : Nat → Nat → Int64} {sh : Nat → Nat × Nat} {N : Nat} (hS : ShOK sh) (hR : RfOK R) {tK tF tC tS : Nat → Int32} {nt : Nat} (hV : TV tK tF tC nt) (hV2 : TV2 tK tF tC tS nt) (hnt6 : nt ≤ 1000000) {G : Nat → Int32} {nP nF nS : Nat} (hW : WFA G nP nF nt) (hWT : WFT G nF nS) (hKW : WFK G nP nF) {rk : Nat → Nat} (hrk : RK G nF rk) (hD : DR tK tF tC tS I R sh nt 0 G nP nF nS) {F : Nat} (hF : F < 12) {l a b : Int32} (hl : 0 ≤ l.toInt) {P : Nat → Bool} (hP : P = meets G F l a b) {Q : Option Value → HS → Prop} (hq : Q (some (.int (bI ((fst1 P nF).isSome = true)))) (I, R, L, sh, N)) : ∀ (n_ : Nat) (i : Nat), nF - i = n_ → (i ≤ nF) → (∀ j, j < i → P j = false) → Run mi_De_isTaken d 0 0 3 [(0, .ref 1), (1, .int (nI F)), (2, .int l), (3, .int a), (4, .int b), (5, .int (nI i))] [] (I, R, L, sh, N) Q := by
  intro n_
  induction n_ using Nat.strongRecOn with | ind n_ ih_ => ?_
  intro i hn_ v0_ v1_
  obtain ⟨hPc, hP24, hFc, hF12, hWF, hWP⟩ := id hW
  refine r_iload (pc2 := 5) d_De_isTaken_3 rfl rfl ?_
  refine r_aload_n (x := some 1) (pc2 := 6) d_De_isTaken_5 rfl rfl ?_
  refine q_getI (x := nI nF) (pc2 := 9) d_De_isTaken_6 rfl k_De_24 (by decide) (sh_1 hS) hD.1.2.1 ?_
  refine q_icmp_ge (tgt := 63) (A := ((i : Nat) : Int)) (B := ((nF : Nat) : Int)) (pc2 := 12) d_De_isTaken_9 rfl rfl (nI_toInt (by omega)) (nI_toInt (by omega)) (fun c1 => ?_) (fun c1 => ?_)
  · refine r_iconst (v := nI 0) (pc2 := 64) d_De_isTaken_63 rfl (by decide) ?_
    refine Run.ret (some (.int (nI 0))) d_De_isTaken_64 ⟨_, rfl, by decide⟩ ?_
    have hf : ¬ (fst1 P nF).isSome = true := by
      rw [fst1_none (fun j hj => v1_ j (by omega))]; decide
    rw [bI_f hf] at hq; exact hq
  · refine r_aload_n (x := some 1) (pc2 := 13) d_De_isTaken_12 rfl rfl ?_
    refine q_getR (x := some 5) (pc2 := 16) d_De_isTaken_13 rfl k_De_20 rfl (sh_1 hS) (rf_1_1 hR) ?_
    refine r_iload (pc2 := 18) d_De_isTaken_16 rfl rfl ?_
    refine q_aaload (q := i) (x := some (fe 0 i)) (pc2 := 19) d_De_isTaken_18 rfl (sh_5 hS) (by decide) (by decide) (nI_toInt (by omega)) (by omega) (rf_fe hR (show 0 < 3 by decide) (show i < 12 by omega)) ?_
    refine r_astore (x := some (fe 0 i)) (pc2 := 21) d_De_isTaken_19 rfl (Nat.le_of_ble_eq_true rfl) ?_
    refine r_iload (pc2 := 23) d_De_isTaken_21 rfl rfl ?_
    refine r_iload_n (pc2 := 24) d_De_isTaken_23 rfl rfl ?_
    refine q_icmp_eq (tgt := 57) (A := ((i : Nat) : Int)) (B := ((F : Nat) : Int)) (pc2 := 27) d_De_isTaken_24 rfl rfl (nI_toInt (by omega)) (nI_toInt (by omega)) (fun c2 => ?_) (fun c2 => ?_)
    · refine q_iinc (b := 1) (pc2 := 60) d_De_isTaken_57 rfl rfl (by decide) (Nat.le_of_ble_eq_true rfl) ?_
      refine r_goto (tgt := 3) d_De_isTaken_60 rfl ?_
      refine Run.sub (l2 := [(0, .ref 1), (1, .int (nI F)), (2, .int l), (3, .int a), (4, .int b), (5, .int (nI (i + 1)))]) ⟨rfl, rfl, rfl, rfl, rfl, rfl, trivial⟩ ?_
      exact ih_ (nF - (i + 1)) (by omega) (i + 1) rfl (by omega) (fun j hj => by
        rcases Nat.lt_or_ge j i with q | q
        · exact v1_ j q
        · rw [show j = i by omega, hP]; unfold meets; exact decide_eq_false (by omega))
    · refine r_aload (x := some (fe 0 i)) (pc2 := 29) d_De_isTaken_27 rfl rfl ?_
      refine q_getI (x := G (174 + 84 * i + 7)) (pc2 := 32) d_De_isTaken_29 rfl k_De_77 (by decide) (sh_fe0 hS (show 0 < 3 by decide) (show i < 12 by omega)) ((hD.2.2.2.1 i (by omega)).1.2.2.2.2.2.2.1) ?_
      refine r_iload_n (pc2 := 33) d_De_isTaken_32 rfl rfl ?_
      refine q_icmp_ne (tgt := 57) (A := (G (174 + 84 * i + 7)).toInt) (B := l.toInt) (pc2 := 36) d_De_isTaken_33 rfl rfl (rfl) (rfl) (fun c3 => ?_) (fun c3 => ?_)
      · refine q_iinc (b := 1) (pc2 := 60) d_De_isTaken_57 rfl rfl (by decide) (Nat.le_of_ble_eq_true rfl) ?_
        refine r_goto (tgt := 3) d_De_isTaken_60 rfl ?_
        refine Run.sub (l2 := [(0, .ref 1), (1, .int (nI F)), (2, .int l), (3, .int a), (4, .int b), (5, .int (nI (i + 1)))]) ⟨rfl, rfl, rfl, rfl, rfl, rfl, trivial⟩ ?_
        exact ih_ (nF - (i + 1)) (by omega) (i + 1) rfl (by omega) (fun j hj => by
          rcases Nat.lt_or_ge j i with q | q
          · exact v1_ j q
          · rw [show j = i by omega, hP]; unfold meets; exact decide_eq_false (by omega))
      · refine r_aload (x := some (fe 0 i)) (pc2 := 38) d_De_isTaken_36 rfl rfl ?_
        refine q_getI (x := G (174 + 84 * i + 8)) (pc2 := 41) d_De_isTaken_38 rfl k_De_80 (by decide) (sh_fe0 hS (show 0 < 3 by decide) (show i < 12 by omega)) ((hD.2.2.2.1 i (by omega)).1.2.2.2.2.2.2.2.1) ?_
        refine r_iload (pc2 := 43) d_De_isTaken_41 rfl rfl ?_
        refine q_icmp_gt (tgt := 57) (A := (G (174 + 84 * i + 8)).toInt) (B := b.toInt) (pc2 := 46) d_De_isTaken_43 rfl rfl (rfl) (rfl) (fun c4 => ?_) (fun c4 => ?_)
        · refine q_iinc (b := 1) (pc2 := 60) d_De_isTaken_57 rfl rfl (by decide) (Nat.le_of_ble_eq_true rfl) ?_
          refine r_goto (tgt := 3) d_De_isTaken_60 rfl ?_
          refine Run.sub (l2 := [(0, .ref 1), (1, .int (nI F)), (2, .int l), (3, .int a), (4, .int b), (5, .int (nI (i + 1)))]) ⟨rfl, rfl, rfl, rfl, rfl, rfl, trivial⟩ ?_
          exact ih_ (nF - (i + 1)) (by omega) (i + 1) rfl (by omega) (fun j hj => by
            rcases Nat.lt_or_ge j i with q | q
            · exact v1_ j q
            · rw [show j = i by omega, hP]; unfold meets; exact decide_eq_false (by omega))
        · refine r_iload_n (pc2 := 47) d_De_isTaken_46 rfl rfl ?_
          refine r_aload (x := some (fe 0 i)) (pc2 := 49) d_De_isTaken_47 rfl rfl ?_
          refine q_getI (x := G (174 + 84 * i + 9)) (pc2 := 52) d_De_isTaken_49 rfl k_De_83 (by decide) (sh_fe0 hS (show 0 < 3 by decide) (show i < 12 by omega)) ((hD.2.2.2.1 i (by omega)).1.2.2.2.2.2.2.2.2) ?_
          refine q_icmp_gt (tgt := 57) (A := a.toInt) (B := (G (174 + 84 * i + 9)).toInt) (pc2 := 55) d_De_isTaken_52 rfl rfl (rfl) (rfl) (fun c5 => ?_) (fun c5 => ?_)
          · refine q_iinc (b := 1) (pc2 := 60) d_De_isTaken_57 rfl rfl (by decide) (Nat.le_of_ble_eq_true rfl) ?_
            refine r_goto (tgt := 3) d_De_isTaken_60 rfl ?_
            refine Run.sub (l2 := [(0, .ref 1), (1, .int (nI F)), (2, .int l), (3, .int a), (4, .int b), (5, .int (nI (i + 1)))]) ⟨rfl, rfl, rfl, rfl, rfl, rfl, trivial⟩ ?_
            exact ih_ (nF - (i + 1)) (by omega) (i + 1) rfl (by omega) (fun j hj => by
              rcases Nat.lt_or_ge j i with q | q
              · exact v1_ j q
              · rw [show j = i by omega, hP]; unfold meets; exact decide_eq_false (by omega))
          · refine r_iconst (v := nI 1) (pc2 := 56) d_De_isTaken_55 rfl (by decide) ?_
            refine Run.ret (some (.int (nI 1))) d_De_isTaken_56 ⟨_, rfl, by decide⟩ ?_
            have hf : (fst1 P nF).isSome = true := by
              obtain ⟨k, hk⟩ := fst1_ex (P := P) (i := i) (by rw [hP]; unfold meets; exact decide_eq_true (by omega)) (show i < nF by omega)
              rw [hk]; rfl
            rw [bI_t hf] at hq; exact hq
theorem c_De_isTaken {d : Nat} {I : Nat → Nat → Int32} {R : Nat → Nat → Option Nat} {L : Nat → Nat → Int64} {sh : Nat → Nat × Nat} {N : Nat} (hS : ShOK sh) (hR : RfOK R) {tK tF tC tS : Nat → Int32} {nt : Nat} (hV : TV tK tF tC nt) (hV2 : TV2 tK tF tC tS nt) (hnt6 : nt ≤ 1000000) {G : Nat → Int32} {nP nF nS : Nat} (hW : WFA G nP nF nt) (hWT : WFT G nF nS) (hKW : WFK G nP nF) {rk : Nat → Nat} (hrk : RK G nF rk) (hD : DR tK tF tC tS I R sh nt 0 G nP nF nS) {F : Nat} (hF : F < 12) {l a b : Int32} (hl : 0 ≤ l.toInt) : Me mi_De_isTaken d 0 0 [.ref 1, .int (nI F), .int l, .int a, .int b] (I, R, L, sh, N) (some (.int (bI ((fst1 (meets G F l a b) nF).isSome = true)))) (I, R, L, sh, N) := by
  refine Mt.of pn_De (Nat.le_of_ble_eq_true rfl) ?_
  show Run mi_De_isTaken d 0 0 0 [(0, .ref 1), (1, .int (nI F)), (2, .int l), (3, .int a), (4, .int b)] [] (I, R, L, sh, N) _
  refine r_iconst (v := nI 0) (pc2 := 1) d_De_isTaken_0 rfl (by decide) ?_
  refine r_istore (pc2 := 3) d_De_isTaken_1 rfl (Nat.le_of_ble_eq_true rfl) ?_
  refine Run.sub (l2 := [(0, .ref 1), (1, .int (nI F)), (2, .int l), (3, .int a), (4, .int b), (5, .int (nI 0))]) ⟨rfl, rfl, rfl, rfl, rfl, rfl, trivial⟩ ?_
  exact l_De_isTaken hS hR hV hV2 hnt6 hW hWT hKW hrk hD hF hl rfl ⟨rfl, rfl⟩ _ 0 rfl (Nat.zero_le _) (fun j hj => absurd hj (by omega))
theorem c_X_layer {d : Nat} {I : Nat → Nat → Int32} {R : Nat → Nat → Option Nat} {L : Nat → Nat → Int64} {sh : Nat → Nat × Nat} {N : Nat} (hS : ShOK sh) (hR : RfOK R) {tK tF tC tS : Nat → Int32} {nt : Nat} (hV : TV tK tF tC nt) (hV2 : TV2 tK tF tC tS nt) (hnt6 : nt ≤ 1000000) {G : Nat → Int32} {nP nF nS : Nat} (hW : WFA G nP nF nt) (hWT : WFT G nF nS) (hKW : WFK G nP nF) {rk : Nat → Nat} (hrk : RK G nF rk) (hD : DR tK tF tC tS I R sh nt 0 G nP nF nS) {f : Int32} {l : Int32} {a : Int32} {b : Int32} (hd : 90 ≤ d) : Mt mi_X_layer d 0 0 [.ref 0, .int f, .int l, .int a, .int b] (I, R, L, sh, N) (XD I R L sh N (o_layer G nF f l a b) (PD tK tF tC tS I R sh nt (g_layer G nF f l a b) nP nF nS)) := by
  obtain ⟨hPc, hP24, hFc, hF12, hWF, hWP⟩ := id hW
  have hS24 := hWT.2.1
  refine Mt.of pn_X (Nat.le_of_ble_eq_true rfl) ?_
  show Run mi_X_layer d 0 0 0 [(0, .ref 0), (1, .int f), (2, .int l), (3, .int a), (4, .int b)] [] (I, R, L, sh, N) _
  refine r_aload_n (x := some 0) (pc2 := 1) d_X_layer_0 rfl rfl ?_
  refine r_iload_n (pc2 := 2) d_X_layer_1 rfl rfl ?_
  refine q_callv (M2 := mi_X_isFeature) (pc2 := 5) d_X_layer_2 rfl k_X_220 cm_X_isFeature cv_X_isFeature (sh_0 hS) (by decide) rfl rfl rfl (Nat.le_of_ble_eq_true rfl) (c_X_isFeature (f := f) hS hR hV hV2 hnt6 hW hWT hKW hrk hD) (d2 := d - 1) (by omega) (Nat.le_of_eq (Nat.zero_add _)) (Nat.le_of_eq (Nat.zero_add _)) ?_
  refine q_bif_ne (tgt := 15) (pc2 := 8) d_X_layer_5 rfl rfl (fun c1 => ?_) (fun c1 => ?_)
  · obtain ⟨fN, hfN, rfl, efN⟩ := nat_of c1
    obtain ⟨tpfN, klfN, skfN, fbfN, nRfN, nNfN, nOfN, frfN, tofN, ⟨a0fN, b0fN, cc0fN, dd0fN⟩, ⟨a1fN, b1fN, cc1fN, dd1fN⟩, ⟨a2fN, b2fN, cc2fN, dd2fN⟩, ⟨a3fN, b3fN, cc3fN, dd3fN⟩, ⟨a4fN, b4fN, cc4fN, dd4fN⟩, ⟨a5fN, b5fN, cc5fN, dd5fN⟩, ⟨a6fN, b6fN, cc6fN, dd6fN⟩, ⟨a8fN, b8fN, cc8fN, dd8fN⟩, ⟨a9fN, b9fN, cc9fN, dd9fN⟩⟩ := wfn (hWF fN (by omega))
    obtain ⟨-, -, -, -, -, -, -, w7fN, -, -, wNfN, wRfN, wKfN, wOfN⟩ := hWF fN (by omega)
    obtain ⟨⟨x0fN, x1fN, x2fN, x3fN, x4fN, x5fN, x6fN, x7fN, x8fN⟩, xnfN, xofN, xkfN, xcfN, xrfN⟩ := hD.2.2.2.1 fN (by omega)
    have hflfN := fe_lt (e := 0) (by decide) (show fN < 12 by omega)
    unfold dk at hflfN
    refine r_iload_n (pc2 := 16) d_X_layer_15 rfl rfl ?_
    refine r_iconst (v := (-1 : Int32)) (pc2 := 17) d_X_layer_16 rfl (by decide) ?_
    refine q_icmp_ne (tgt := 37) (A := l.toInt) (B := (-1 : Int)) (pc2 := 20) d_X_layer_17 rfl rfl (rfl) (by decide) (fun c2 => ?_) (fun c2 => ?_)
    · refine r_iload_n (pc2 := 38) d_X_layer_37 rfl rfl ?_
      refine q_if_lt (tgt := 64) (A := l.toInt) (pc2 := 41) d_X_layer_38 rfl rfl (rfl) (fun c3 => ?_) (fun c3 => ?_)
      · refine r_aload_n (x := some 0) (pc2 := 65) d_X_layer_64 rfl rfl ?_
        refine r_bipush (v := (-32 : Int32)) (pc2 := 67) d_X_layer_65 rfl (by decide) ?_
        refine q_callv (M2 := mi_X_refuse) (pc2 := 70) d_X_layer_67 rfl k_X_75 cm_X_refuse cv_X_refuse (sh_0 hS) (by decide) rfl rfl rfl (Nat.le_of_ble_eq_true rfl) (c_X_refuse_0 (J := I) hS hR) (d2 := d - 1) (by omega) (Nat.le_of_eq (Nat.zero_add _)) (Nat.le_of_eq (Nat.zero_add _)) ?_
        obtain ⟨I4, hI4⟩ : ∃ x, x = u2 I 744 0 (I 744 0 + nI 1) := ⟨_, rfl⟩
        rw [← hI4]
        refine Run.ret (some (.int ((-32 : Int32)))) d_X_layer_70 ⟨_, rfl⟩ ?_
        first | (exfalso; omega) | exact XD.bad hS 0 (by (try simp only [efN, b0fN, b1fN, b2fN, b3fN, b4fN, b5fN, b6fN, b8fN, b9fN, Int.toNat_natCast] at c1 c2 c3); (unfold o_layer); (try dsimp only); (try simp only [efN, b0fN, b1fN, b2fN, b3fN, b4fN, b5fN, b6fN, b8fN, b9fN, Int.toNat_natCast]); (repeat (first | rw [if_pos (by omega)] | rw [if_neg (by omega)])); (try rfl); (all_goals first | rfl | (simp only [a0fN, a1fN, a2fN, a3fN, a4fN, a5fN, a6fN, a8fN, a9fN]; done) | (congr 2 <;> omega) | ((repeat' split) <;> first | rfl | (simp only [a0fN, a1fN, a2fN, a3fN, a4fN, a5fN, a6fN, a8fN, a9fN]; done) | (exfalso; omega) | (congr 2 <;> omega) | skip))) (by decide) FrXR.rf FrX.rf hI4
      · refine r_iload_n (pc2 := 42) d_X_layer_41 rfl rfl ?_
        refine r_iconst (v := nI 3) (pc2 := 43) d_X_layer_42 rfl (by decide) ?_
        refine q_icmp_gt (tgt := 64) (A := l.toInt) (B := (3 : Int)) (pc2 := 46) d_X_layer_43 rfl rfl (rfl) (nI_toInt (by omega)) (fun c5 => ?_) (fun c5 => ?_)
        · refine r_aload_n (x := some 0) (pc2 := 65) d_X_layer_64 rfl rfl ?_
          refine r_bipush (v := (-32 : Int32)) (pc2 := 67) d_X_layer_65 rfl (by decide) ?_
          refine q_callv (M2 := mi_X_refuse) (pc2 := 70) d_X_layer_67 rfl k_X_75 cm_X_refuse cv_X_refuse (sh_0 hS) (by decide) rfl rfl rfl (Nat.le_of_ble_eq_true rfl) (c_X_refuse_0 (J := I) hS hR) (d2 := d - 1) (by omega) (Nat.le_of_eq (Nat.zero_add _)) (Nat.le_of_eq (Nat.zero_add _)) ?_
          obtain ⟨I6, hI6⟩ : ∃ x, x = u2 I 744 0 (I 744 0 + nI 1) := ⟨_, rfl⟩
          rw [← hI6]
          refine Run.ret (some (.int ((-32 : Int32)))) d_X_layer_70 ⟨_, rfl⟩ ?_
          first | (exfalso; omega) | exact XD.bad hS 0 (by (try simp only [efN, b0fN, b1fN, b2fN, b3fN, b4fN, b5fN, b6fN, b8fN, b9fN, Int.toNat_natCast] at c1 c2 c3 c5); (unfold o_layer); (try dsimp only); (try simp only [efN, b0fN, b1fN, b2fN, b3fN, b4fN, b5fN, b6fN, b8fN, b9fN, Int.toNat_natCast]); (repeat (first | rw [if_pos (by omega)] | rw [if_neg (by omega)])); (try rfl); (all_goals first | rfl | (simp only [a0fN, a1fN, a2fN, a3fN, a4fN, a5fN, a6fN, a8fN, a9fN]; done) | (congr 2 <;> omega) | ((repeat' split) <;> first | rfl | (simp only [a0fN, a1fN, a2fN, a3fN, a4fN, a5fN, a6fN, a8fN, a9fN]; done) | (exfalso; omega) | (congr 2 <;> omega) | skip))) (by decide) FrXR.rf FrX.rf hI6
        · refine r_iload_n (pc2 := 47) d_X_layer_46 rfl rfl ?_
          refine q_if_lt (tgt := 64) (A := a.toInt) (pc2 := 50) d_X_layer_47 rfl rfl (rfl) (fun c7 => ?_) (fun c7 => ?_)
          · refine r_aload_n (x := some 0) (pc2 := 65) d_X_layer_64 rfl rfl ?_
            refine r_bipush (v := (-32 : Int32)) (pc2 := 67) d_X_layer_65 rfl (by decide) ?_
            refine q_callv (M2 := mi_X_refuse) (pc2 := 70) d_X_layer_67 rfl k_X_75 cm_X_refuse cv_X_refuse (sh_0 hS) (by decide) rfl rfl rfl (Nat.le_of_ble_eq_true rfl) (c_X_refuse_0 (J := I) hS hR) (d2 := d - 1) (by omega) (Nat.le_of_eq (Nat.zero_add _)) (Nat.le_of_eq (Nat.zero_add _)) ?_
            obtain ⟨I8, hI8⟩ : ∃ x, x = u2 I 744 0 (I 744 0 + nI 1) := ⟨_, rfl⟩
            rw [← hI8]
            refine Run.ret (some (.int ((-32 : Int32)))) d_X_layer_70 ⟨_, rfl⟩ ?_
            first | (exfalso; omega) | exact XD.bad hS 0 (by (try simp only [efN, b0fN, b1fN, b2fN, b3fN, b4fN, b5fN, b6fN, b8fN, b9fN, Int.toNat_natCast] at c1 c2 c3 c5 c7); (unfold o_layer); (try dsimp only); (try simp only [efN, b0fN, b1fN, b2fN, b3fN, b4fN, b5fN, b6fN, b8fN, b9fN, Int.toNat_natCast]); (repeat (first | rw [if_pos (by omega)] | rw [if_neg (by omega)])); (try rfl); (all_goals first | rfl | (simp only [a0fN, a1fN, a2fN, a3fN, a4fN, a5fN, a6fN, a8fN, a9fN]; done) | (congr 2 <;> omega) | ((repeat' split) <;> first | rfl | (simp only [a0fN, a1fN, a2fN, a3fN, a4fN, a5fN, a6fN, a8fN, a9fN]; done) | (exfalso; omega) | (congr 2 <;> omega) | skip))) (by decide) FrXR.rf FrX.rf hI8
          · refine r_iload_n (pc2 := 51) d_X_layer_50 rfl rfl ?_
            refine r_iload (pc2 := 53) d_X_layer_51 rfl rfl ?_
            refine q_icmp_gt (tgt := 64) (A := a.toInt) (B := b.toInt) (pc2 := 56) d_X_layer_53 rfl rfl (rfl) (rfl) (fun c9 => ?_) (fun c9 => ?_)
            · refine r_aload_n (x := some 0) (pc2 := 65) d_X_layer_64 rfl rfl ?_
              refine r_bipush (v := (-32 : Int32)) (pc2 := 67) d_X_layer_65 rfl (by decide) ?_
              refine q_callv (M2 := mi_X_refuse) (pc2 := 70) d_X_layer_67 rfl k_X_75 cm_X_refuse cv_X_refuse (sh_0 hS) (by decide) rfl rfl rfl (Nat.le_of_ble_eq_true rfl) (c_X_refuse_0 (J := I) hS hR) (d2 := d - 1) (by omega) (Nat.le_of_eq (Nat.zero_add _)) (Nat.le_of_eq (Nat.zero_add _)) ?_
              obtain ⟨I10, hI10⟩ : ∃ x, x = u2 I 744 0 (I 744 0 + nI 1) := ⟨_, rfl⟩
              rw [← hI10]
              refine Run.ret (some (.int ((-32 : Int32)))) d_X_layer_70 ⟨_, rfl⟩ ?_
              first | (exfalso; omega) | exact XD.bad hS 0 (by (try simp only [efN, b0fN, b1fN, b2fN, b3fN, b4fN, b5fN, b6fN, b8fN, b9fN, Int.toNat_natCast] at c1 c2 c3 c5 c7 c9); (unfold o_layer); (try dsimp only); (try simp only [efN, b0fN, b1fN, b2fN, b3fN, b4fN, b5fN, b6fN, b8fN, b9fN, Int.toNat_natCast]); (repeat (first | rw [if_pos (by omega)] | rw [if_neg (by omega)])); (try rfl); (all_goals first | rfl | (simp only [a0fN, a1fN, a2fN, a3fN, a4fN, a5fN, a6fN, a8fN, a9fN]; done) | (congr 2 <;> omega) | ((repeat' split) <;> first | rfl | (simp only [a0fN, a1fN, a2fN, a3fN, a4fN, a5fN, a6fN, a8fN, a9fN]; done) | (exfalso; omega) | (congr 2 <;> omega) | skip))) (by decide) FrXR.rf FrX.rf hI10
            · refine r_iload (pc2 := 58) d_X_layer_56 rfl rfl ?_
              refine r_sipush (v := nI 1000) (pc2 := 61) d_X_layer_58 rfl (by decide) ?_
              refine q_icmp_lt (tgt := 71) (A := b.toInt) (B := (1000 : Int)) (pc2 := 64) d_X_layer_61 rfl rfl (rfl) (nI_toInt (by omega)) (fun c11 => ?_) (fun c11 => ?_)
              · refine r_aload_n (x := some 0) (pc2 := 72) d_X_layer_71 rfl rfl ?_
                refine q_getR (x := some 1) (pc2 := 75) d_X_layer_72 rfl k_X_12 rfl (sh_0 hS) (rf_0_0 hR) ?_
                refine r_iload_n (pc2 := 76) d_X_layer_75 rfl rfl ?_
                refine r_iload_n (pc2 := 77) d_X_layer_76 rfl rfl ?_
                refine r_iload_n (pc2 := 78) d_X_layer_77 rfl rfl ?_
                refine r_iload (pc2 := 80) d_X_layer_78 rfl rfl ?_
                refine q_callv (M2 := mi_De_isTaken) (pc2 := 83) d_X_layer_80 rfl k_X_297 cm_De_isTaken cv_De_isTaken (sh_1 hS) (by decide) rfl rfl rfl (Nat.le_of_ble_eq_true rfl) (c_De_isTaken hS hR hV hV2 hnt6 hW hWT hKW hrk hD (F := fN) (by omega) (l := l) (a := a) (b := b) (by omega)) (d2 := d - 1) (by omega) (Nat.le_of_eq (Nat.zero_add _)) (Nat.le_of_eq (Nat.zero_add _)) ?_
                refine q_bif_eq (tgt := 93) (pc2 := 86) d_X_layer_83 rfl rfl (fun c12 => ?_) (fun c12 => ?_)
                · have hn := Option.not_isSome_iff_eq_none.mp c12
                  refine r_aload_n (x := some 0) (pc2 := 94) d_X_layer_93 rfl rfl ?_
                  refine q_getR (x := some 1) (pc2 := 97) d_X_layer_94 rfl k_X_12 rfl (sh_0 hS) (rf_0_0 hR) ?_
                  refine q_getR (x := some 5) (pc2 := 100) d_X_layer_97 rfl k_X_211 rfl (sh_1 hS) (rf_1_1 hR) ?_
                  refine r_iload_n (pc2 := 101) d_X_layer_100 rfl rfl ?_
                  refine q_aaload (q := fN) (x := some (fe 0 fN)) (pc2 := 102) d_X_layer_101 rfl (sh_5 hS) (by decide) (by decide) (nI_toInt (by omega)) (by omega) (rf_fe hR (show 0 < 3 by decide) (show fN < 12 by omega)) ?_
                  refine r_iload_n (pc2 := 103) d_X_layer_102 rfl rfl ?_
                  refine r_iload_n (pc2 := 104) d_X_layer_103 rfl rfl ?_
                  refine r_iload (pc2 := 106) d_X_layer_104 rfl rfl ?_
                  refine r_callv (M2 := mi_Fe_takeLayer) (pc2 := 109) d_X_layer_106 rfl k_X_293 cm_Fe_takeLayer cv_Fe_takeLayer (sh_fe0 hS (show 0 < 3 by decide) (show fN < 12 by omega)) (by decide) rfl rfl rfl (Nat.le_of_ble_eq_true rfl) (c_Fe_takeLayer (J := I) hS hR (F := fN) (by omega) (l := l) (a := a) (b := b)) (d2 := d - 1) (by omega) (Nat.le_of_eq (Nat.zero_add _)) (Nat.le_of_eq (Nat.zero_add _)) (fun r2 h2 hq2 => ?_)
                  obtain ⟨rfl, I13, I14, I15, rfl, hI13, hI14, hI15⟩ := hq2
                  change Run _ _ _ _ _ _ [] _ _
                  refine r_iconst (v := nI 1) (pc2 := 110) d_X_layer_109 rfl (by decide) ?_
                  refine Run.ret (some (.int (nI 1))) d_X_layer_110 ⟨_, rfl⟩ ?_
                  first | (exfalso; omega) | exact XD.val (by (try simp only [efN, b0fN, b1fN, b2fN, b3fN, b4fN, b5fN, b6fN, b8fN, b9fN, Int.toNat_natCast] at c1 c2 c3 c5 c7 c9 c11); (unfold o_layer); (try dsimp only); (try simp only [efN, b0fN, b1fN, b2fN, b3fN, b4fN, b5fN, b6fN, b8fN, b9fN, Int.toNat_natCast]); (repeat (first | rw [if_pos (by omega)] | rw [if_neg (by omega)] | (rw [hn]; try dsimp only))); (try rfl); (all_goals first | rfl | (simp only [a0fN, a1fN, a2fN, a3fN, a4fN, a5fN, a6fN, a8fN, a9fN]; done) | (congr 2 <;> omega) | ((repeat' split) <;> first | rfl | (simp only [a0fN, a1fN, a2fN, a3fN, a4fN, a5fN, a6fN, a8fN, a9fN]; done) | (exfalso; omega) | (congr 2 <;> omega) | skip))) ⟨(((FrD.rf.put hI13 (Or.inl (by first | omega | (unfold ru; omega)))).put hI14 (Or.inl (by first | omega | (unfold ru; omega)))).put hI15 (Or.inl (by first | omega | (unfold ru; omega)))), FrRD.rf, by (try simp only [efN, b0fN, b1fN, b2fN, b3fN, b4fN, b5fN, b6fN, b8fN, b9fN, Int.toNat_natCast] at c1 c2 c3 c5 c7 c9 c11); (unfold g_layer); (try dsimp only); (try simp only [efN, b0fN, b1fN, b2fN, b3fN, b4fN, b5fN, b6fN, b8fN, b9fN, Int.toNat_natCast]); (repeat (first | rw [if_pos (by omega)] | rw [if_neg (by omega)] | (rw [hn]; try dsimp only))); exact DR.layer hW hWT (E := fN) (by omega) (by omega) (by omega) (by omega) hD hI13 hI14 hI15⟩
                · obtain ⟨kx, hkx⟩ := Option.isSome_iff_exists.mp c12
                  refine r_aload_n (x := some 0) (pc2 := 87) d_X_layer_86 rfl rfl ?_
                  refine r_bipush (v := (-35 : Int32)) (pc2 := 89) d_X_layer_87 rfl (by decide) ?_
                  refine q_callv (M2 := mi_X_refuse) (pc2 := 92) d_X_layer_89 rfl k_X_75 cm_X_refuse cv_X_refuse (sh_0 hS) (by decide) rfl rfl rfl (Nat.le_of_ble_eq_true rfl) (c_X_refuse_3 (J := I) hS hR) (d2 := d - 1) (by omega) (Nat.le_of_eq (Nat.zero_add _)) (Nat.le_of_eq (Nat.zero_add _)) ?_
                  obtain ⟨I16, hI16⟩ : ∃ x, x = u2 I 744 3 (I 744 3 + nI 1) := ⟨_, rfl⟩
                  rw [← hI16]
                  refine Run.ret (some (.int ((-35 : Int32)))) d_X_layer_92 ⟨_, rfl⟩ ?_
                  first | (exfalso; omega) | exact XD.bad hS 3 (by (try simp only [efN, b0fN, b1fN, b2fN, b3fN, b4fN, b5fN, b6fN, b8fN, b9fN, Int.toNat_natCast] at c1 c2 c3 c5 c7 c9 c11); (unfold o_layer); (try dsimp only); (try simp only [efN, b0fN, b1fN, b2fN, b3fN, b4fN, b5fN, b6fN, b8fN, b9fN, Int.toNat_natCast]); (repeat (first | rw [if_pos (by omega)] | rw [if_neg (by omega)] | (rw [hkx]; try dsimp only))); (try rfl); (all_goals first | rfl | (simp only [a0fN, a1fN, a2fN, a3fN, a4fN, a5fN, a6fN, a8fN, a9fN]; done) | (congr 2 <;> omega) | ((repeat' split) <;> first | rfl | (simp only [a0fN, a1fN, a2fN, a3fN, a4fN, a5fN, a6fN, a8fN, a9fN]; done) | (exfalso; omega) | (congr 2 <;> omega) | skip))) (by decide) FrXR.rf FrX.rf hI16
              · refine r_aload_n (x := some 0) (pc2 := 65) d_X_layer_64 rfl rfl ?_
                refine r_bipush (v := (-32 : Int32)) (pc2 := 67) d_X_layer_65 rfl (by decide) ?_
                refine q_callv (M2 := mi_X_refuse) (pc2 := 70) d_X_layer_67 rfl k_X_75 cm_X_refuse cv_X_refuse (sh_0 hS) (by decide) rfl rfl rfl (Nat.le_of_ble_eq_true rfl) (c_X_refuse_0 (J := I) hS hR) (d2 := d - 1) (by omega) (Nat.le_of_eq (Nat.zero_add _)) (Nat.le_of_eq (Nat.zero_add _)) ?_
                obtain ⟨I17, hI17⟩ : ∃ x, x = u2 I 744 0 (I 744 0 + nI 1) := ⟨_, rfl⟩
                rw [← hI17]
                refine Run.ret (some (.int ((-32 : Int32)))) d_X_layer_70 ⟨_, rfl⟩ ?_
                first | (exfalso; omega) | exact XD.bad hS 0 (by (try simp only [efN, b0fN, b1fN, b2fN, b3fN, b4fN, b5fN, b6fN, b8fN, b9fN, Int.toNat_natCast] at c1 c2 c3 c5 c7 c9 c11); (unfold o_layer); (try dsimp only); (try simp only [efN, b0fN, b1fN, b2fN, b3fN, b4fN, b5fN, b6fN, b8fN, b9fN, Int.toNat_natCast]); (repeat (first | rw [if_pos (by omega)] | rw [if_neg (by omega)])); (try rfl); (all_goals first | rfl | (simp only [a0fN, a1fN, a2fN, a3fN, a4fN, a5fN, a6fN, a8fN, a9fN]; done) | (congr 2 <;> omega) | ((repeat' split) <;> first | rfl | (simp only [a0fN, a1fN, a2fN, a3fN, a4fN, a5fN, a6fN, a8fN, a9fN]; done) | (exfalso; omega) | (congr 2 <;> omega) | skip))) (by decide) FrXR.rf FrX.rf hI17
    · obtain rfl : l = (-1 : Int32) := Int32.toInt_inj.mp (by rw [m1v]; omega)
      have hn : fst1 (meets G fN (-1) a b) nF = none := fst1_none (fun j _ => decide_eq_false (fun q => by have := q.1; rw [m1v] at this; omega))
      have n0v : (nI 0).toInt = 0 := rfl
      have m1t : (-1 : Int32).toInt = -1 := m1v
      refine r_aload_n (x := some 0) (pc2 := 21) d_X_layer_20 rfl rfl ?_
      refine q_getR (x := some 1) (pc2 := 24) d_X_layer_21 rfl k_X_12 rfl (sh_0 hS) (rf_0_0 hR) ?_
      refine q_getR (x := some 5) (pc2 := 27) d_X_layer_24 rfl k_X_211 rfl (sh_1 hS) (rf_1_1 hR) ?_
      refine r_iload_n (pc2 := 28) d_X_layer_27 rfl rfl ?_
      refine q_aaload (q := fN) (x := some (fe 0 fN)) (pc2 := 29) d_X_layer_28 rfl (sh_5 hS) (by decide) (by decide) (nI_toInt (by omega)) (by omega) (rf_fe hR (show 0 < 3 by decide) (show fN < 12 by omega)) ?_
      refine r_iconst (v := (-1 : Int32)) (pc2 := 30) d_X_layer_29 rfl (by decide) ?_
      refine r_iconst (v := nI 0) (pc2 := 31) d_X_layer_30 rfl (by decide) ?_
      refine r_iconst (v := nI 0) (pc2 := 32) d_X_layer_31 rfl (by decide) ?_
      refine r_callv (M2 := mi_Fe_takeLayer) (pc2 := 35) d_X_layer_32 rfl k_X_293 cm_Fe_takeLayer cv_Fe_takeLayer (sh_fe0 hS (show 0 < 3 by decide) (show fN < 12 by omega)) (by decide) rfl rfl rfl (Nat.le_of_ble_eq_true rfl) (c_Fe_takeLayer (J := I) hS hR (F := fN) (by omega) (l := (-1 : Int32)) (a := nI 0) (b := nI 0)) (d2 := d - 1) (by omega) (Nat.le_of_eq (Nat.zero_add _)) (Nat.le_of_eq (Nat.zero_add _)) (fun r2 h2 hq2 => ?_)
      obtain ⟨rfl, I18, I19, I20, rfl, hI18, hI19, hI20⟩ := hq2
      change Run _ _ _ _ _ _ [] _ _
      refine r_iconst (v := nI 1) (pc2 := 36) d_X_layer_35 rfl (by decide) ?_
      refine Run.ret (some (.int (nI 1))) d_X_layer_36 ⟨_, rfl⟩ ?_
      first | (exfalso; omega) | exact XD.val (by (try simp only [efN, b0fN, b1fN, b2fN, b3fN, b4fN, b5fN, b6fN, b8fN, b9fN, m1v, Int.toNat_natCast] at c1 c2); (unfold o_layer); (try dsimp only); (try simp only [efN, b0fN, b1fN, b2fN, b3fN, b4fN, b5fN, b6fN, b8fN, b9fN, m1v, Int.toNat_natCast]); (repeat (first | rw [if_pos (by omega)] | rw [if_neg (by omega)] | (rw [hn]; try dsimp only))); (try rfl); (all_goals first | rfl | (simp only [a0fN, a1fN, a2fN, a3fN, a4fN, a5fN, a6fN, a8fN, a9fN]; done) | (congr 2 <;> omega) | ((repeat' split) <;> first | rfl | (simp only [a0fN, a1fN, a2fN, a3fN, a4fN, a5fN, a6fN, a8fN, a9fN]; done) | (exfalso; omega) | (congr 2 <;> omega) | skip))) ⟨(((FrD.rf.put hI18 (Or.inl (by first | omega | (unfold ru; omega)))).put hI19 (Or.inl (by first | omega | (unfold ru; omega)))).put hI20 (Or.inl (by first | omega | (unfold ru; omega)))), FrRD.rf, by (try simp only [efN, b0fN, b1fN, b2fN, b3fN, b4fN, b5fN, b6fN, b8fN, b9fN, m1v, Int.toNat_natCast] at c1 c2); (unfold g_layer); (try dsimp only); (try simp only [efN, b0fN, b1fN, b2fN, b3fN, b4fN, b5fN, b6fN, b8fN, b9fN, m1v, Int.toNat_natCast]); (repeat (first | rw [if_pos (by omega)] | rw [if_neg (by omega)] | (rw [hn]; try dsimp only))); exact DR.layer hW hWT (E := fN) (by omega) (by omega) (by omega) (by omega) hD hI18 hI19 hI20⟩
  · refine r_aload_n (x := some 0) (pc2 := 9) d_X_layer_8 rfl rfl ?_
    refine r_bipush (v := (-32 : Int32)) (pc2 := 11) d_X_layer_9 rfl (by decide) ?_
    refine q_callv (M2 := mi_X_refuse) (pc2 := 14) d_X_layer_11 rfl k_X_75 cm_X_refuse cv_X_refuse (sh_0 hS) (by decide) rfl rfl rfl (Nat.le_of_ble_eq_true rfl) (c_X_refuse_0 (J := I) hS hR) (d2 := d - 1) (by omega) (Nat.le_of_eq (Nat.zero_add _)) (Nat.le_of_eq (Nat.zero_add _)) ?_
    obtain ⟨I21, hI21⟩ : ∃ x, x = u2 I 744 0 (I 744 0 + nI 1) := ⟨_, rfl⟩
    rw [← hI21]
    refine Run.ret (some (.int ((-32 : Int32)))) d_X_layer_14 ⟨_, rfl⟩ ?_
    first | (exfalso; omega) | exact XD.bad hS 0 (by (unfold o_layer); (try dsimp only); (try simp only [Int.toNat_natCast]); (repeat (first | rw [if_pos (by omega)] | rw [if_neg (by omega)])); (try rfl); (all_goals first | rfl | (congr 2 <;> omega) | ((repeat' split) <;> first | rfl | (exfalso; omega) | (congr 2 <;> omega) | skip))) (by decide) FrXR.rf FrX.rf hI21
