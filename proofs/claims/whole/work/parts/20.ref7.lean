/-! THE REFERENCE: an answer, its needs -/
theorem l_M_workedOut_61 {d : Nat} {I : Nat → Nat → Int32} {R : Nat → Nat → Option Nat} {L : Nat → Nat → Int64} {sh : Nat → Nat × Nat} {N : Nat} (hS : ShOK sh) (hR : RfOK R) {kA fA cA gA nk nt : Nat} (hT : TRf R sh kA fA cA gA nk) (hTn : TNe kA fA cA gA) (hV : TV (I kA) (I fA) (I cA) nt) (hnt : nt ≤ nk) (hnk : nk ≤ 1000000) {nP nF : Nat} (hW : WFA (I 762) nP nF nt) {p : Nat} (hp : p < nP) {rk : Nat → Nat} (hrk : RK (I 762) nF rk) {J0 : Nat → Nat → Int32} {F : Nat} (hF : F < nF) (ihA : ∀ o, o < nF → rk o < rk F → ∀ J, FrA I J → MEM (PA I kA fA cA gA p) nF J → ∀ d, nt + 5 + 2 * rk o ≤ d → Mt mi_M_answer d 0 0 [.ref 761, .int (nI o), .int (nI p)] (J, R, L, sh, N) (AQ (PA I kA fA cA gA p) nF o I J R L sh N)) (hno : PA I kA fA cA gA p F = match fst1 (fun n => decide ((PA I kA fA cA gA p (ndF (I 762) F n)).1 ≠ I 762 (174 + 84 * F + (14 + 2 * n + 1)))) (I 762 (174 + 84 * F + 5)).toInt.toNat with
    | some n => (0, 3, nI (ndF (I 762) F n))
    | none => wo2 (I 762) (fun t => trt (I kA) (I fA) (I cA) (I gA) (I 762 (6 + 2 * p)) (I 762 (6 + 2 * p + 1)).toInt.toNat t) (I 762 (6 + 2 * p)) p F) (hd : nt + 4 + 2 * rk F ≤ d) : ∀ (n_ : Nat) (n : Nat) (J : Nat → Nat → Int32), (I 762 (174 + 84 * F + 5)).toInt.toNat - n = n_ → (FrA I J) → (MEM (PA I kA fA cA gA p) nF J) → (∀ b, b < 32 → bt (J0 761 20) b = true → bt (J 761 20) b = true) → (∀ j, j < n → (fun n => decide ((PA I kA fA cA gA p (ndF (I 762) F n)).1 ≠ I 762 (174 + 84 * F + (14 + 2 * n + 1)))) j = false) → (n ≤ (I 762 (174 + 84 * F + 5)).toInt.toNat) → Run mi_M_workedOut d 0 0 61 [(0, .ref 761), (1, .int (nI F)), (2, .int (nI p)), (3, .int ((I 762 (6 + 2 * p)))), (4, .int ((-1))), (5, .int (nI n))] [] (J, R, L, sh, N) (WQ (PA I kA fA cA gA p) nF F I J0 R L sh N) := by
  intro n_
  induction n_ using Nat.strongRecOn with | ind n_ ih_ => ?_
  intro n J hn_ v0_ v1_ v2_ v3_ v4_
  have hG : J 762 = I 762 := v0_.row (by decide) (by decide) (by decide) (by decide)
  obtain ⟨hn1, hn2, hn3, hn4⟩ := hTn
  have hk_ : J kA = I kA := v0_.row (by omega) (by omega) (by omega) (by omega)
  have hf_ : J fA = I fA := v0_.row (by omega) (by omega) (by omega) (by omega)
  have hc_ : J cA = I cA := v0_.row (by omega) (by omega) (by omega) (by omega)
  have hg_ : J gA = I gA := v0_.row (by omega) (by omega) (by omega) (by omega)
  obtain ⟨hPc, hP24, hFc, hF12, hWF, hWP⟩ := hW
  obtain ⟨⟨hat0, hat9⟩, -⟩ := hWP p hp
  obtain ⟨w0, w1, w2, w3, w4, w5, w6, w7, w8, w9, wN, wR, wK, wO⟩ := hWF F hF
  obtain ⟨nN, hnN, hnN2⟩ : ∃ nN : Nat, I 762 (174 + 84 * F + 5) = nI nN ∧ (I 762 (174 + 84 * F + 5)).toInt = (nN : Int) := ⟨(I 762 (174 + 84 * F + 5)).toInt.toNat, eq_nI (by omega), by omega⟩
  refine r_iload (pc2 := 63) d_M_workedOut_61 rfl rfl ?_
  refine r_aload_n (x := some 761) (pc2 := 64) d_M_workedOut_63 rfl rfl ?_
  refine r_iload_n (pc2 := 65) d_M_workedOut_64 rfl rfl ?_
  refine r_iconst (v := nI 5) (pc2 := 66) d_M_workedOut_65 rfl (by decide) ?_
  refine q_callv (M2 := mi_M_of) (pc2 := 69) d_M_workedOut_66 rfl k_M_76 cm_M_of cv_M_of (sh_761 hS) (by decide) rfl rfl rfl (Nat.le_of_ble_eq_true rfl) (c_M_of (I := J) (F := F) (W := 5) hS hR (by omega)) (d2 := d - 1) (by omega) (Nat.le_of_eq (Nat.zero_add _)) (Nat.le_of_eq (Nat.zero_add _)) ?_
  refine q_top (y := nI nN) ((congrFun hG _).trans (hnN)) ?_
  refine q_icmp_ge (tgt := 125) (A := ((n : Nat) : Int)) (B := ((nN : Nat) : Int)) (pc2 := 72) d_M_workedOut_69 rfl rfl (nI_toInt (by omega)) (nI_toInt (by omega)) (fun c1 => ?_) (fun c1 => ?_)
  · have hfd : fst1 (fun n => decide ((PA I kA fA cA gA p (ndF (I 762) F n)).1 ≠ I 762 (174 + 84 * F + (14 + 2 * n + 1)))) (I 762 (174 + 84 * F + 5)).toInt.toNat = none := fst1_none (fun j hj => v3_ j (by omega))
    have e2 := hno
    rw [hfd] at e2
    dsimp only at e2
    refine Run.sub (l2 := [(0, .ref 761), (1, .int (nI F)), (2, .int (nI p)), (3, .int (I 762 (6 + 2 * p))), (4, .int (-1)), (5, .int (nI n))]) ⟨rfl, rfl, rfl, rfl, rfl, rfl, trivial⟩ ?_
    exact t_M_workedOut_125 hS hR hT ⟨hn1, hn2, hn3, hn4⟩ hV hnt hnk ⟨hPc, hP24, hFc, hF12, hWF, hWP⟩ hp v0_ v1_ v2_ hF e2 (by omega)
  · obtain ⟨⟨n1, n2⟩, n3, n4⟩ := wN n (by omega)
    obtain ⟨ot, ho, ho2⟩ : ∃ ot : Nat, I 762 (174 + 84 * F + (14 + 2 * n)) = nI ot ∧ (I 762 (174 + 84 * F + (14 + 2 * n))).toInt = (ot : Int) := ⟨(I 762 (174 + 84 * F + (14 + 2 * n))).toInt.toNat, eq_nI (by omega), by omega⟩
    rw [ho2] at n1 n2
    have hnd : ndF (I 762) F n = ot := by unfold ndF; rw [ho2, Int.toNat_natCast]
    obtain ⟨hr1, hr2⟩ := (hrk F hF).2 n (by omega)
    rw [hnd] at hr1 hr2
    refine r_aload_n (x := some 761) (pc2 := 73) d_M_workedOut_72 rfl rfl ?_
    refine r_iload_n (pc2 := 74) d_M_workedOut_73 rfl rfl ?_
    refine r_bipush (v := nI 14) (pc2 := 76) d_M_workedOut_74 rfl (by decide) ?_
    refine r_iconst (v := nI 2) (pc2 := 77) d_M_workedOut_76 rfl (by decide) ?_
    refine r_iload (pc2 := 79) d_M_workedOut_77 rfl rfl ?_
    refine q_imulN (pc2 := 80) d_M_workedOut_79 rfl ?_
    refine q_iaddN (pc2 := 81) d_M_workedOut_80 rfl ?_
    refine q_callv (M2 := mi_M_of) (pc2 := 84) d_M_workedOut_81 rfl k_M_76 cm_M_of cv_M_of (sh_761 hS) (by decide) rfl rfl rfl (Nat.le_of_ble_eq_true rfl) (c_M_of (I := J) (F := F) (W := 14 + 2 * n) hS hR (by omega)) (d2 := d - 1) (by omega) (Nat.le_of_eq (Nat.zero_add _)) (Nat.le_of_eq (Nat.zero_add _)) ?_
    refine q_top (y := nI ot) ((congrFun hG _).trans (ho)) ?_
    refine r_istore (pc2 := 86) d_M_workedOut_84 rfl (Nat.le_of_ble_eq_true rfl) ?_
    refine r_aload_n (x := some 761) (pc2 := 87) d_M_workedOut_86 rfl rfl ?_
    refine r_iload (pc2 := 89) d_M_workedOut_87 rfl rfl ?_
    refine r_iload_n (pc2 := 90) d_M_workedOut_89 rfl rfl ?_
    refine r_callv (M2 := mi_M_answer) (pc2 := 93) d_M_workedOut_90 rfl k_M_173 cm_M_answer cv_M_answer (sh_761 hS) (by decide) rfl rfl rfl (Nat.le_of_ble_eq_true rfl) (ihA ot (by omega) (by omega) J v0_ v1_ (d - 1) (by omega)) (d2 := d - 1) (by omega) (Nat.le_of_eq (Nat.zero_add _)) (Nat.le_of_eq (Nat.zero_add _)) (fun r2 h2 hq2 => ?_)
    obtain ⟨J2, rfl, rfl, hJ2, hM2, hbt2, hb2⟩ := hq2
    change Run _ _ _ _ _ _ [.int ((PA I kA fA cA gA p ot).1)] _ _
    have hG2 : J2 762 = I 762 := hJ2.row (by decide) (by decide) (by decide) (by decide)
    have hk_2 : J2 kA = I kA := hJ2.row (by omega) (by omega) (by omega) (by omega)
    have hf_2 : J2 fA = I fA := hJ2.row (by omega) (by omega) (by omega) (by omega)
    have hc_2 : J2 cA = I cA := hJ2.row (by omega) (by omega) (by omega) (by omega)
    have hg_2 : J2 gA = I gA := hJ2.row (by omega) (by omega) (by omega) (by omega)
    refine r_aload_n (x := some 761) (pc2 := 94) d_M_workedOut_93 rfl rfl ?_
    refine r_iload_n (pc2 := 95) d_M_workedOut_94 rfl rfl ?_
    refine r_bipush (v := nI 14) (pc2 := 97) d_M_workedOut_95 rfl (by decide) ?_
    refine r_iconst (v := nI 2) (pc2 := 98) d_M_workedOut_97 rfl (by decide) ?_
    refine r_iload (pc2 := 100) d_M_workedOut_98 rfl rfl ?_
    refine q_imulN (pc2 := 101) d_M_workedOut_100 rfl ?_
    refine q_iaddN (pc2 := 102) d_M_workedOut_101 rfl ?_
    refine r_iconst (v := nI 1) (pc2 := 103) d_M_workedOut_102 rfl (by decide) ?_
    refine q_iaddN (pc2 := 104) d_M_workedOut_103 rfl ?_
    refine q_callv (M2 := mi_M_of) (pc2 := 107) d_M_workedOut_104 rfl k_M_76 cm_M_of cv_M_of (sh_761 hS) (by decide) rfl rfl rfl (Nat.le_of_ble_eq_true rfl) (c_M_of (I := J2) (F := F) (W := 14 + 2 * n + 1) hS hR (by omega)) (d2 := d - 1) (by omega) (Nat.le_of_eq (Nat.zero_add _)) (Nat.le_of_eq (Nat.zero_add _)) ?_
    refine q_top (y := I 762 (174 + 84 * F + (14 + 2 * n + 1))) (congrFun hG2 _) ?_
    refine q_icmp_eq (tgt := 119) (A := ((PA I kA fA cA gA p ot).1).toInt) (B := (I 762 (174 + 84 * F + (14 + 2 * n + 1))).toInt) (pc2 := 110) d_M_workedOut_107 rfl rfl (rfl) (rfl) (fun c2 => ?_) (fun c2 => ?_)
    · refine q_iinc (b := 1) (pc2 := 122) d_M_workedOut_119 rfl rfl (by decide) (Nat.le_of_ble_eq_true rfl) ?_
      refine r_goto (tgt := 61) d_M_workedOut_122 rfl ?_
      refine Run.sub (l2 := [(0, .ref 761), (1, .int (nI F)), (2, .int (nI p)), (3, .int ((I 762 (6 + 2 * p)))), (4, .int ((-1))), (5, .int (nI (n + 1)))]) ⟨rfl, rfl, rfl, rfl, rfl, rfl, trivial⟩ ?_
      exact ih_ ((I 762 (174 + 84 * F + 5)).toInt.toNat - (n + 1)) (by omega) (n + 1) J2 rfl (hJ2) (hM2) (fun b hb32 h => hb2 b hb32 (v2_ b hb32 h)) (fun j hj => by
        rcases Nat.lt_or_ge j n with q | q
        · exact v3_ j q
        · rw [show j = n by omega]
          refine decide_eq_false (fun z => z ?_)
          rw [hnd]; exact Int32.toInt_inj.mp c2) (by omega)
    · have hfd : fst1 (fun n => decide ((PA I kA fA cA gA p (ndF (I 762) F n)).1 ≠ I 762 (174 + 84 * F + (14 + 2 * n + 1)))) (I 762 (174 + 84 * F + 5)).toInt.toNat = some n := fst1_some (i := n) v3_ (decide_eq_true (by rw [hnd]; exact fun q => c2 (congrArg Int32.toInt q))) (by omega)
      have e2 := hno
      rw [hfd] at e2
      dsimp only at e2
      rw [hnd] at e2
      refine r_aload_n (x := some 761) (pc2 := 111) d_M_workedOut_110 rfl rfl ?_
      refine r_iconst (v := nI 0) (pc2 := 112) d_M_workedOut_111 rfl (by decide) ?_
      refine r_iconst (v := nI 3) (pc2 := 113) d_M_workedOut_112 rfl (by decide) ?_
      refine r_iload (pc2 := 115) d_M_workedOut_113 rfl rfl ?_
      refine q_callv (M2 := mi_M_isIt) (pc2 := 118) d_M_workedOut_115 rfl k_M_182 cm_M_isIt cv_M_isIt (sh_761 hS) (by decide) rfl rfl rfl (Nat.le_of_ble_eq_true rfl) (c_M_isIt (I := J2) (v := nI 0) (b := nI 3) (c := nI ot) hS hR) (d2 := d - 1) (by omega) (Nat.le_of_eq (Nat.zero_add _)) (Nat.le_of_eq (Nat.zero_add _)) ?_
      obtain ⟨I3, hI3⟩ : ∃ x, x = u2 J2 761 15 (nI 3) := ⟨_, rfl⟩
      obtain ⟨I4, hI4⟩ : ∃ x, x = u2 I3 761 16 (nI ot) := ⟨_, rfl⟩
      rw [← hI3, ← hI4]
      refine Run.ret (some (.int (nI 0))) d_M_workedOut_118 ⟨_, rfl⟩ ?_
      exact WQ.mk (by rw [e2]; rfl) hJ2 hM2 hI3 hI4 (fun b hb32 h => hb2 b hb32 (v2_ b hb32 h))
theorem c_M_workedOut {d : Nat} {I : Nat → Nat → Int32} {R : Nat → Nat → Option Nat} {L : Nat → Nat → Int64} {sh : Nat → Nat × Nat} {N : Nat} (hS : ShOK sh) (hR : RfOK R) {kA fA cA gA nk nt : Nat} (hT : TRf R sh kA fA cA gA nk) (hTn : TNe kA fA cA gA) (hV : TV (I kA) (I fA) (I cA) nt) (hnt : nt ≤ nk) (hnk : nk ≤ 1000000) {nP nF : Nat} (hW : WFA (I 762) nP nF nt) {p : Nat} (hp : p < nP) {rk : Nat → Nat} (hrk : RK (I 762) nF rk) {J : Nat → Nat → Int32} (hJ : FrA I J) (hM : MEM (PA I kA fA cA gA p) nF J) {F : Nat} (hF : F < nF) (ihA : ∀ o, o < nF → rk o < rk F → ∀ J, FrA I J → MEM (PA I kA fA cA gA p) nF J → ∀ d, nt + 5 + 2 * rk o ≤ d → Mt mi_M_answer d 0 0 [.ref 761, .int (nI o), .int (nI p)] (J, R, L, sh, N) (AQ (PA I kA fA cA gA p) nF o I J R L sh N)) (hd : nt + 4 + 2 * rk F ≤ d) : Mt mi_M_workedOut d 0 0 [.ref 761, .int (nI F), .int (nI p)] (J, R, L, sh, N) (WQ (PA I kA fA cA gA p) nF F I J R L sh N) := by
  have hG : J 762 = I 762 := hJ.row (by decide) (by decide) (by decide) (by decide)
  obtain ⟨hn1, hn2, hn3, hn4⟩ := hTn
  have hk_ : J kA = I kA := hJ.row (by omega) (by omega) (by omega) (by omega)
  have hf_ : J fA = I fA := hJ.row (by omega) (by omega) (by omega) (by omega)
  have hc_ : J cA = I cA := hJ.row (by omega) (by omega) (by omega) (by omega)
  have hg_ : J gA = I gA := hJ.row (by omega) (by omega) (by omega) (by omega)
  obtain ⟨hPc, hP24, hFc, hF12, hWF, hWP⟩ := hW
  obtain ⟨⟨hat0, hat9⟩, -⟩ := hWP p hp
  obtain ⟨w0, w1, w2, w3, w4, w5, w6, w7, w8, w9, wN, wR, wK, wO⟩ := hWF F hF
  refine Mt.of pn_M (Nat.le_of_ble_eq_true rfl) ?_
  show Run mi_M_workedOut d 0 0 0 [(0, .ref 761), (1, .int (nI F)), (2, .int (nI p))] [] (J, R, L, sh, N) _
  refine r_aload_n (x := some 761) (pc2 := 1) d_M_workedOut_0 rfl rfl ?_
  refine r_iload_n (pc2 := 2) d_M_workedOut_1 rfl rfl ?_
  refine q_callv (M2 := mi_M_keyOf) (pc2 := 5) d_M_workedOut_2 rfl k_M_84 cm_M_keyOf cv_M_keyOf (sh_761 hS) (by decide) rfl rfl rfl (Nat.le_of_ble_eq_true rfl) (c_M_keyOf (I := J) (p := p) hS hR (by omega)) (d2 := d - 1) (by omega) (Nat.le_of_eq (Nat.zero_add _)) (Nat.le_of_eq (Nat.zero_add _)) ?_
  refine q_top (y := I 762 (6 + 2 * p)) (congrFun hG _) ?_
  refine r_istore_n (pc2 := 6) d_M_workedOut_5 rfl rfl (Nat.le_of_ble_eq_true rfl) ?_
  refine r_aload_n (x := some 761) (pc2 := 7) d_M_workedOut_6 rfl rfl ?_
  refine r_iload_n (pc2 := 8) d_M_workedOut_7 rfl rfl ?_
  refine r_iload_n (pc2 := 9) d_M_workedOut_8 rfl rfl ?_
  refine q_callv (M2 := mi_M_overrideOf) (pc2 := 12) d_M_workedOut_9 rfl k_M_179 cm_M_overrideOf cv_M_overrideOf (sh_761 hS) (by decide) rfl rfl rfl (Nat.le_of_ble_eq_true rfl) (c_M_overrideOf (I := J) (F := F) (nO := (I 762 (174 + 84 * F + 6)).toInt.toNat) (key := (I 762 (6 + 2 * p))) hS hR (by omega) ((congrFun hG _).trans (eq_nI (by omega))) (by omega) (by omega)) (d2 := d - 1) (by omega) (Nat.le_of_eq (Nat.zero_add _)) (Nat.le_of_eq (Nat.zero_add _)) ?_
  refine q_top (y := vo (oB (I 762) F (I 762 (174 + 84 * F + 6)).toInt.toNat (I 762 (6 + 2 * p)))) (by rw [hG]) ?_
  refine r_istore (pc2 := 14) d_M_workedOut_12 rfl (Nat.le_of_ble_eq_true rfl) ?_
  have e0 := ans_eq (tb := (fun t => trt (I kA) (I fA) (I cA) (I gA) (I 762 (6 + 2 * p)) (I 762 (6 + 2 * p + 1)).toInt.toNat t)) (key := (I 762 (6 + 2 * p))) (p := p) hrk hF
  change PA I kA fA cA gA p F = wo1 (I 762) (fun t => trt (I kA) (I fA) (I cA) (I gA) (I 762 (6 + 2 * p)) (I 762 (6 + 2 * p + 1)).toInt.toNat t) (I 762 (6 + 2 * p)) p (fun o => (PA I kA fA cA gA p o).1) F at e0
  unfold wo1 at e0
  cases hob : oB (I 762) F (I 762 (174 + 84 * F + 6)).toInt.toNat (I 762 (6 + 2 * p)) with
  | none =>
    rw [hob] at e0
    dsimp only at e0
    refine r_iload (pc2 := 16) d_M_workedOut_14 rfl rfl ?_
    refine q_if_lt (tgt := 40) (A := (-1 : Int)) (pc2 := 19) d_M_workedOut_16 rfl rfl (by decide) (fun c1 => ?_) (fun c1 => ?_)
    · refine r_aload_n (x := some 761) (pc2 := 41) d_M_workedOut_40 rfl rfl ?_
      refine r_iload_n (pc2 := 42) d_M_workedOut_41 rfl rfl ?_
      refine r_iconst (v := nI 1) (pc2 := 43) d_M_workedOut_42 rfl (by decide) ?_
      refine q_callv (M2 := mi_M_of) (pc2 := 46) d_M_workedOut_43 rfl k_M_76 cm_M_of cv_M_of (sh_761 hS) (by decide) rfl rfl rfl (Nat.le_of_ble_eq_true rfl) (c_M_of (I := J) (F := F) (W := 1) hS hR (by omega)) (d2 := d - 1) (by omega) (Nat.le_of_eq (Nat.zero_add _)) (Nat.le_of_eq (Nat.zero_add _)) ?_
      refine q_top (y := I 762 (174 + 84 * F + 1)) (congrFun hG _) ?_
      refine r_iconst (v := nI 1) (pc2 := 47) d_M_workedOut_46 rfl (by decide) ?_
      refine q_icmp_ne (tgt := 58) (A := (I 762 (174 + 84 * F + 1)).toInt) (B := (1 : Int)) (pc2 := 50) d_M_workedOut_47 rfl rfl (rfl) (nI_toInt (by omega)) (fun c2 => ?_) (fun c2 => ?_)
      · refine r_iconst (v := nI 0) (pc2 := 59) d_M_workedOut_58 rfl (by decide) ?_
        refine r_istore (pc2 := 61) d_M_workedOut_59 rfl (Nat.le_of_ble_eq_true rfl) ?_
        rw [if_neg c2] at e0
        refine Run.sub (l2 := [(0, .ref 761), (1, .int (nI F)), (2, .int (nI p)), (3, .int (I 762 (6 + 2 * p))), (4, .int (-1)), (5, .int (nI 0))]) ⟨rfl, rfl, rfl, rfl, rfl, rfl, trivial⟩ ?_
        exact l_M_workedOut_61 hS hR hT ⟨hn1, hn2, hn3, hn4⟩ hV hnt hnk ⟨hPc, hP24, hFc, hF12, hWF, hWP⟩ hp hrk hF ihA e0 (by omega) _ 0 J rfl hJ hM (fun b _ h => h) (fun j hj => absurd hj (by omega)) (by omega)
      · rw [if_pos c2] at e0
        refine r_aload_n (x := some 761) (pc2 := 51) d_M_workedOut_50 rfl rfl ?_
        refine r_iconst (v := nI 0) (pc2 := 52) d_M_workedOut_51 rfl (by decide) ?_
        refine r_iconst (v := nI 2) (pc2 := 53) d_M_workedOut_52 rfl (by decide) ?_
        refine r_iconst (v := (-1 : Int32)) (pc2 := 54) d_M_workedOut_53 rfl (by decide) ?_
        refine q_callv (M2 := mi_M_isIt) (pc2 := 57) d_M_workedOut_54 rfl k_M_182 cm_M_isIt cv_M_isIt (sh_761 hS) (by decide) rfl rfl rfl (Nat.le_of_ble_eq_true rfl) (c_M_isIt (I := J) (v := nI 0) (b := nI 2) (c := (-1 : Int32)) hS hR) (d2 := d - 1) (by omega) (Nat.le_of_eq (Nat.zero_add _)) (Nat.le_of_eq (Nat.zero_add _)) ?_
        obtain ⟨I3, hI3⟩ : ∃ x, x = u2 J 761 15 (nI 2) := ⟨_, rfl⟩
        obtain ⟨I4, hI4⟩ : ∃ x, x = u2 I3 761 16 ((-1 : Int32)) := ⟨_, rfl⟩
        rw [← hI3, ← hI4]
        refine Run.ret (some (.int (nI 0))) d_M_workedOut_57 ⟨_, rfl⟩ ?_
        exact WQ.mk (by rw [e0]; rfl) hJ hM hI3 hI4 (fun b _ h => h)
    · exfalso; omega
  | some k =>
    rw [hob] at e0
    dsimp only at e0
    obtain ⟨hk1, hk2, -⟩ := fst1_spec (show fst1 _ _ = some k from hob)
    refine r_iload (pc2 := 16) d_M_workedOut_14 rfl rfl ?_
    refine q_if_lt (tgt := 40) (A := ((k : Nat) : Int)) (pc2 := 19) d_M_workedOut_16 rfl rfl (nI_toInt (by omega)) (fun c5 => ?_) (fun c5 => ?_)
    · exfalso; omega
    · refine r_aload_n (x := some 761) (pc2 := 20) d_M_workedOut_19 rfl rfl ?_
      refine r_aload_n (x := some 761) (pc2 := 21) d_M_workedOut_20 rfl rfl ?_
      refine r_iload_n (pc2 := 22) d_M_workedOut_21 rfl rfl ?_
      refine r_bipush (v := nI 20) (pc2 := 24) d_M_workedOut_22 rfl (by decide) ?_
      refine r_iconst (v := nI 2) (pc2 := 25) d_M_workedOut_24 rfl (by decide) ?_
      refine r_iload (pc2 := 27) d_M_workedOut_25 rfl rfl ?_
      refine q_imulN (pc2 := 28) d_M_workedOut_27 rfl ?_
      refine q_iaddN (pc2 := 29) d_M_workedOut_28 rfl ?_
      refine r_iconst (v := nI 1) (pc2 := 30) d_M_workedOut_29 rfl (by decide) ?_
      refine q_iaddN (pc2 := 31) d_M_workedOut_30 rfl ?_
      refine q_callv (M2 := mi_M_of) (pc2 := 34) d_M_workedOut_31 rfl k_M_76 cm_M_of cv_M_of (sh_761 hS) (by decide) rfl rfl rfl (Nat.le_of_ble_eq_true rfl) (c_M_of (I := J) (F := F) (W := 20 + 2 * k + 1) hS hR (by omega)) (d2 := d - 1) (by omega) (Nat.le_of_eq (Nat.zero_add _)) (Nat.le_of_eq (Nat.zero_add _)) ?_
      refine q_top (y := I 762 (174 + 84 * F + (20 + 2 * k + 1))) (congrFun hG _) ?_
      refine r_iconst (v := nI 1) (pc2 := 35) d_M_workedOut_34 rfl (by decide) ?_
      refine r_iconst (v := (-1 : Int32)) (pc2 := 36) d_M_workedOut_35 rfl (by decide) ?_
      refine q_callv (M2 := mi_M_isIt) (pc2 := 39) d_M_workedOut_36 rfl k_M_182 cm_M_isIt cv_M_isIt (sh_761 hS) (by decide) rfl rfl rfl (Nat.le_of_ble_eq_true rfl) (c_M_isIt (I := J) (v := I 762 (174 + 84 * F + (20 + 2 * k + 1))) (b := nI 1) (c := (-1 : Int32)) hS hR) (d2 := d - 1) (by omega) (Nat.le_of_eq (Nat.zero_add _)) (Nat.le_of_eq (Nat.zero_add _)) ?_
      obtain ⟨I6, hI6⟩ : ∃ x, x = u2 J 761 15 (nI 1) := ⟨_, rfl⟩
      obtain ⟨I7, hI7⟩ : ∃ x, x = u2 I6 761 16 ((-1 : Int32)) := ⟨_, rfl⟩
      rw [← hI6, ← hI7]
      refine Run.ret (some (.int (I 762 (174 + 84 * F + (20 + 2 * k + 1))))) d_M_workedOut_39 ⟨_, rfl⟩ ?_
      exact WQ.mk (by rw [e0]; rfl) hJ hM hI6 hI7 (fun b _ h => h)
