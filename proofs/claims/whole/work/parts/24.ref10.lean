/-! THE REFERENCE: askings over all persons -/
theorem cnt_s {P : Nat → Bool} {n : Nat} : cnt P (n + 1) = cnt P n + (if P n = true then 1 else 0) := rfl
theorem bits_s {P : Nat → Bool} {n : Nat} : bits P (n + 1) = if P n = true then bits P n ||| (nI 1 <<< (nI n &&& 31)) else bits P n := rfl
theorem l_M_reach {d : Nat} {I : Nat → Nat → Int32} {R : Nat → Nat → Option Nat} {L : Nat → Nat → Int64} {sh : Nat → Nat × Nat} {N : Nat} (hS : ShOK sh) (hR : RfOK R) {kA fA cA gA nk nt : Nat} (hT : TRf R sh kA fA cA gA nk) (hTn : TNe kA fA cA gA) (hV : TV (I kA) (I fA) (I cA) nt) (hnt : nt ≤ nk) (hnk : nk ≤ 1000000) {nP nF : Nat} (hW : WFA (I 762) nP nF nt) {rk : Nat → Nat} (hrk : RK (I 762) nF rk) {F : Nat} (hF : F < nF) {v : Int32} {P : Nat → Bool} (hP : ∀ p, P p = decide ((PA I kA fA cA gA p F).1 = v)) {Q : Option Value → HS → Prop} (hq : ∀ J, FrS I J → Q (some (.int (nI (cnt P nP)))) (J, R, L, sh, N)) (hd : nt + 35 ≤ d) : ∀ (n_ : Nat) (i : Nat) (J : Nat → Nat → Int32), nP - i = n_ → (FrS I J) → (i ≤ nP) → Run mi_M_reach d 0 0 21 [(0, .ref 761), (1, .int (nI F)), (2, .int v), (3, .int (nI (cnt P i))), (4, .int (nI i))] [] (J, R, L, sh, N) Q := by
  intro n_
  induction n_ using Nat.strongRecOn with | ind n_ ih_ => ?_
  intro i J hn_ v0_ v1_
  have hG : J 762 = I 762 := v0_.row (by decide) (by decide) (by decide)
  obtain ⟨hn1, hn2, hn3, hn4⟩ := id hTn
  have hk_ : J kA = I kA := v0_.row (by omega) (by omega) (by omega)
  have hf_ : J fA = I fA := v0_.row (by omega) (by omega) (by omega)
  have hc_ : J cA = I cA := v0_.row (by omega) (by omega) (by omega)
  have hg_ : J gA = I gA := v0_.row (by omega) (by omega) (by omega)
  obtain ⟨hPc, hP24, hFc, hF12, hWF, hWP⟩ := id hW
  refine r_iload (pc2 := 23) d_M_reach_21 rfl rfl ?_
  refine r_aload_n (x := some 761) (pc2 := 24) d_M_reach_23 rfl rfl ?_
  refine q_getR (x := some 762) (pc2 := 27) d_M_reach_24 rfl k_M_9 rfl (sh_761 hS) (rf_761_0 hR) ?_
  refine r_iconst (v := nI 0) (pc2 := 28) d_M_reach_27 rfl (by decide) ?_
  refine q_iaload (q := 0) (x := nI nP) (pc2 := 29) d_M_reach_28 rfl (sh_762 hS) (nI_toInt (by omega)) (by omega) ((congrFun hG _).trans (hPc)) ?_
  refine q_icmp_ge (tgt := 57) (A := ((i : Nat) : Int)) (B := ((nP : Nat) : Int)) (pc2 := 32) d_M_reach_29 rfl rfl (nI_toInt (by omega)) (nI_toInt (by omega)) (fun c1 => ?_) (fun c1 => ?_)
  · refine r_iload_n (pc2 := 58) d_M_reach_57 rfl rfl ?_
    refine Run.ret (some (.int (nI (cnt P i)))) d_M_reach_58 ⟨_, rfl⟩ ?_
    rw [show i = nP by omega]; exact hq _ v0_
  · refine r_iload_n (pc2 := 33) d_M_reach_32 rfl rfl ?_
    refine r_aload_n (x := some 761) (pc2 := 34) d_M_reach_33 rfl rfl ?_
    refine r_iload_n (pc2 := 35) d_M_reach_34 rfl rfl ?_
    refine r_iload (pc2 := 37) d_M_reach_35 rfl rfl ?_
    refine r_callv (M2 := mi_M_fresh) (pc2 := 40) d_M_reach_37 rfl k_M_201 cm_M_fresh cv_M_fresh (sh_761 hS) (by decide) rfl rfl rfl (Nat.le_of_ble_eq_true rfl) (c_M_freshJ hS hR hT hTn hV hnt hnk hW hrk (p := i) (by omega) (F := F) (by omega) v0_ (d := d - 1) (by omega)) (d2 := d - 1) (by omega) (Nat.le_of_eq (Nat.zero_add _)) (Nat.le_of_eq (Nat.zero_add _)) (fun r2 h2 hq2 => ?_)
    obtain ⟨J2, rfl, rfl, hJ2, hq2a, hq2b, hq2c⟩ := hq2
    change Run _ _ _ _ _ _ [.int ((PA I kA fA cA gA i F).1), .int (nI (cnt P i))] _ _
    have hGJ2 : J2 762 = I 762 := hJ2.row (by decide) (by decide) (by decide)
    have hk_J2 : J2 kA = I kA := hJ2.row (by omega) (by omega) (by omega)
    have hf_J2 : J2 fA = I fA := hJ2.row (by omega) (by omega) (by omega)
    have hc_J2 : J2 cA = I cA := hJ2.row (by omega) (by omega) (by omega)
    have hg_J2 : J2 gA = I gA := hJ2.row (by omega) (by omega) (by omega)
    refine r_iload_n (pc2 := 41) d_M_reach_40 rfl rfl ?_
    refine q_icmp_ne (tgt := 48) (A := ((PA I kA fA cA gA i F).1).toInt) (B := v.toInt) (pc2 := 44) d_M_reach_41 rfl rfl (rfl) (rfl) (fun c3 => ?_) (fun c3 => ?_)
    · refine r_iconst (v := nI 0) (pc2 := 49) d_M_reach_48 rfl (by decide) ?_
      refine q_iaddN (pc2 := 50) d_M_reach_49 rfl ?_
      refine q_top (y := nI (cnt P (i + 1))) (by rw [cnt_s, if_neg (by rw [hP]; simp only [decide_eq_true_eq]; exact fun q => c3 (congrArg Int32.toInt q))]) ?_
      refine r_istore_n (pc2 := 51) d_M_reach_50 rfl rfl (Nat.le_of_ble_eq_true rfl) ?_
      refine q_iinc (b := 1) (pc2 := 54) d_M_reach_51 rfl rfl (by decide) (Nat.le_of_ble_eq_true rfl) ?_
      refine r_goto (tgt := 21) d_M_reach_54 rfl ?_
      refine Run.sub (l2 := [(0, .ref 761), (1, .int (nI F)), (2, .int v), (3, .int (nI (cnt P (i + 1)))), (4, .int (nI (i + 1)))]) ⟨rfl, rfl, rfl, rfl, rfl, trivial⟩ ?_
      exact ih_ (nP - (i + 1)) (by omega) (i + 1) J2 rfl (hJ2) (by omega)
    · refine r_iconst (v := nI 1) (pc2 := 45) d_M_reach_44 rfl (by decide) ?_
      refine r_goto (tgt := 49) d_M_reach_45 rfl ?_
      refine q_iaddN (pc2 := 50) d_M_reach_49 rfl ?_
      refine q_top (y := nI (cnt P (i + 1))) (by rw [cnt_s, if_pos (by rw [hP]; exact decide_eq_true (Int32.toInt_inj.mp c3))]) ?_
      refine r_istore_n (pc2 := 51) d_M_reach_50 rfl rfl (Nat.le_of_ble_eq_true rfl) ?_
      refine q_iinc (b := 1) (pc2 := 54) d_M_reach_51 rfl rfl (by decide) (Nat.le_of_ble_eq_true rfl) ?_
      refine r_goto (tgt := 21) d_M_reach_54 rfl ?_
      refine Run.sub (l2 := [(0, .ref 761), (1, .int (nI F)), (2, .int v), (3, .int (nI (cnt P (i + 1)))), (4, .int (nI (i + 1)))]) ⟨rfl, rfl, rfl, rfl, rfl, trivial⟩ ?_
      exact ih_ (nP - (i + 1)) (by omega) (i + 1) J2 rfl (hJ2) (by omega)
theorem c_M_reach {d : Nat} {I : Nat → Nat → Int32} {R : Nat → Nat → Option Nat} {L : Nat → Nat → Int64} {sh : Nat → Nat × Nat} {N : Nat} (hS : ShOK sh) (hR : RfOK R) {kA fA cA gA nk nt : Nat} (hT : TRf R sh kA fA cA gA nk) (hTn : TNe kA fA cA gA) (hV : TV (I kA) (I fA) (I cA) nt) (hnt : nt ≤ nk) (hnk : nk ≤ 1000000) {nP nF : Nat} (hW : WFA (I 762) nP nF nt) {rk : Nat → Nat} (hrk : RK (I 762) nF rk) {f : Int32} {v : Int32} (hd : nt + 40 ≤ d) : Mt mi_M_reach d 0 0 [.ref 761, .int f, .int v] (I, R, L, sh, N) (RQ I R L sh N (o_reach (PA I kA fA cA gA) (I 762) nP nF f v)) := by
  obtain ⟨hPc, hP24, hFc, hF12, hWF, hWP⟩ := id hW
  refine Mt.of pn_M (Nat.le_of_ble_eq_true rfl) ?_
  show Run mi_M_reach d 0 0 0 [(0, .ref 761), (1, .int f), (2, .int v)] [] (I, R, L, sh, N) _
  refine r_aload_n (x := some 761) (pc2 := 1) d_M_reach_0 rfl rfl ?_
  refine r_iload_n (pc2 := 2) d_M_reach_1 rfl rfl ?_
  refine r_iload_n (pc2 := 3) d_M_reach_2 rfl rfl ?_
  refine q_callv (M2 := mi_M_isVariant) (pc2 := 6) d_M_reach_3 rfl k_M_232 cm_M_isVariant cv_M_isVariant (sh_761 hS) (by decide) rfl rfl rfl (Nat.le_of_ble_eq_true rfl) (c_M_isVariant (I := I) (nF := nF) (f := f) (v := v) hS hR (hFc) hF12 (by omega)) (d2 := d - 1) (by omega) (Nat.le_of_eq (Nat.zero_add _)) (Nat.le_of_eq (Nat.zero_add _)) ?_
  refine q_bif_ne (tgt := 16) (pc2 := 9) d_M_reach_6 rfl rfl (fun c1 => ?_) (fun c1 => ?_)
  · obtain ⟨F, hF, rfl, eF⟩ := nat_of c1.1
    refine r_iconst (v := nI 0) (pc2 := 17) d_M_reach_16 rfl (by decide) ?_
    refine r_istore_n (pc2 := 18) d_M_reach_17 rfl rfl (Nat.le_of_ble_eq_true rfl) ?_
    refine r_iconst (v := nI 0) (pc2 := 19) d_M_reach_18 rfl (by decide) ?_
    refine r_istore (pc2 := 21) d_M_reach_19 rfl (Nat.le_of_ble_eq_true rfl) ?_
    refine Run.sub (l2 := [(0, .ref 761), (1, .int (nI F)), (2, .int v), (3, .int (nI 0)), (4, .int (nI 0))]) ⟨rfl, rfl, rfl, rfl, rfl, trivial⟩ ?_
    exact l_M_reach hS hR hT hTn hV hnt hnk hW hrk hF (P := fun p => decide ((PA I kA fA cA gA p F).1 = v)) (fun p => rfl) (fun J hJ => RQ.val (by unfold o_reach; rw [if_pos (by omega), eF, Int.toNat_natCast]) hJ) (by omega) _ 0 I rfl FrS.rf (by omega)
  · refine r_aload_n (x := some 761) (pc2 := 10) d_M_reach_9 rfl rfl ?_
    refine r_bipush (v := (-32 : Int32)) (pc2 := 12) d_M_reach_10 rfl (by decide) ?_
    refine q_callv (M2 := mi_M_refused) (pc2 := 15) d_M_reach_12 rfl k_M_106 cm_M_refused cv_M_refused (sh_761 hS) (by decide) rfl rfl rfl (Nat.le_of_ble_eq_true rfl) (c_M_refused_0 (I := I) hS hR) (d2 := d - 1) (by omega) (Nat.le_of_eq (Nat.zero_add _)) (Nat.le_of_eq (Nat.zero_add _)) ?_
    obtain ⟨I2, hI2⟩ : ∃ x, x = u2 I 765 0 (I 765 0 + nI 1) := ⟨_, rfl⟩
    rw [← hI2]
    refine Run.ret (some (.int ((-32 : Int32)))) d_M_reach_15 ⟨_, rfl⟩ ?_
    exact RQ.bad 0 (by unfold o_reach; rw [if_neg (by omega)]) (by decide) FrS.rf hI2
theorem l_M_by {d : Nat} {I : Nat → Nat → Int32} {R : Nat → Nat → Option Nat} {L : Nat → Nat → Int64} {sh : Nat → Nat × Nat} {N : Nat} (hS : ShOK sh) (hR : RfOK R) {kA fA cA gA nk nt : Nat} (hT : TRf R sh kA fA cA gA nk) (hTn : TNe kA fA cA gA) (hV : TV (I kA) (I fA) (I cA) nt) (hnt : nt ≤ nk) (hnk : nk ≤ 1000000) {nP nF : Nat} (hW : WFA (I 762) nP nF nt) {rk : Nat → Nat} (hrk : RK (I 762) nF rk) {F : Nat} (hF : F < nF) {v : Int32} {P : Nat → Bool} (hP : ∀ p, P p = decide ((PA I kA fA cA gA p F).2.1 = v)) {Q : Option Value → HS → Prop} (hq : ∀ J, FrS I J → Q (some (.int (bits P nP))) (J, R, L, sh, N)) (hd : nt + 35 ≤ d) : ∀ (n_ : Nat) (i : Nat) (J : Nat → Nat → Int32), nP - i = n_ → (FrS I J) → (i ≤ nP) → Run mi_M_by d 0 0 32 [(0, .ref 761), (1, .int (nI F)), (2, .int v), (3, .int (bits P i)), (4, .int (nI i))] [] (J, R, L, sh, N) Q := by
  intro n_
  induction n_ using Nat.strongRecOn with | ind n_ ih_ => ?_
  intro i J hn_ v0_ v1_
  have hG : J 762 = I 762 := v0_.row (by decide) (by decide) (by decide)
  obtain ⟨hn1, hn2, hn3, hn4⟩ := id hTn
  have hk_ : J kA = I kA := v0_.row (by omega) (by omega) (by omega)
  have hf_ : J fA = I fA := v0_.row (by omega) (by omega) (by omega)
  have hc_ : J cA = I cA := v0_.row (by omega) (by omega) (by omega)
  have hg_ : J gA = I gA := v0_.row (by omega) (by omega) (by omega)
  obtain ⟨hPc, hP24, hFc, hF12, hWF, hWP⟩ := id hW
  refine r_iload (pc2 := 34) d_M_by_32 rfl rfl ?_
  refine r_aload_n (x := some 761) (pc2 := 35) d_M_by_34 rfl rfl ?_
  refine q_getR (x := some 762) (pc2 := 38) d_M_by_35 rfl k_M_9 rfl (sh_761 hS) (rf_761_0 hR) ?_
  refine r_iconst (v := nI 0) (pc2 := 39) d_M_by_38 rfl (by decide) ?_
  refine q_iaload (q := 0) (x := nI nP) (pc2 := 40) d_M_by_39 rfl (sh_762 hS) (nI_toInt (by omega)) (by omega) ((congrFun hG _).trans (hPc)) ?_
  refine q_icmp_ge (tgt := 79) (A := ((i : Nat) : Int)) (B := ((nP : Nat) : Int)) (pc2 := 43) d_M_by_40 rfl rfl (nI_toInt (by omega)) (nI_toInt (by omega)) (fun c1 => ?_) (fun c1 => ?_)
  · refine r_iload_n (pc2 := 80) d_M_by_79 rfl rfl ?_
    refine Run.ret (some (.int (bits P i))) d_M_by_80 ⟨_, rfl⟩ ?_
    rw [show i = nP by omega]; exact hq _ v0_
  · refine r_aload_n (x := some 761) (pc2 := 44) d_M_by_43 rfl rfl ?_
    refine r_iload_n (pc2 := 45) d_M_by_44 rfl rfl ?_
    refine r_iload (pc2 := 47) d_M_by_45 rfl rfl ?_
    refine r_callv (M2 := mi_M_fresh) (pc2 := 50) d_M_by_47 rfl k_M_201 cm_M_fresh cv_M_fresh (sh_761 hS) (by decide) rfl rfl rfl (Nat.le_of_ble_eq_true rfl) (c_M_freshJ hS hR hT hTn hV hnt hnk hW hrk (p := i) (by omega) (F := F) (by omega) v0_ (d := d - 1) (by omega)) (d2 := d - 1) (by omega) (Nat.le_of_eq (Nat.zero_add _)) (Nat.le_of_eq (Nat.zero_add _)) (fun r2 h2 hq2 => ?_)
    obtain ⟨J2, rfl, rfl, hJ2, hq2a, hq2b, hq2c⟩ := hq2
    change Run _ _ _ _ _ _ [.int ((PA I kA fA cA gA i F).1)] _ _
    have hGJ2 : J2 762 = I 762 := hJ2.row (by decide) (by decide) (by decide)
    have hk_J2 : J2 kA = I kA := hJ2.row (by omega) (by omega) (by omega)
    have hf_J2 : J2 fA = I fA := hJ2.row (by omega) (by omega) (by omega)
    have hc_J2 : J2 cA = I cA := hJ2.row (by omega) (by omega) (by omega)
    have hg_J2 : J2 gA = I gA := hJ2.row (by omega) (by omega) (by omega)
    refine r_istore (pc2 := 52) d_M_by_50 rfl (Nat.le_of_ble_eq_true rfl) ?_
    refine r_iload_n (pc2 := 53) d_M_by_52 rfl rfl ?_
    refine r_aload_n (x := some 761) (pc2 := 54) d_M_by_53 rfl rfl ?_
    refine q_getR (x := some 773) (pc2 := 57) d_M_by_54 rfl k_M_43 rfl (sh_761 hS) (rf_761_18 hR) ?_
    refine r_iload_n (pc2 := 58) d_M_by_57 rfl rfl ?_
    refine q_iaload (q := F) (x := (PA I kA fA cA gA i F).2.1) (pc2 := 59) d_M_by_58 rfl (sh_773 hS) (nI_toInt (by omega)) (by omega) hq2b ?_
    refine r_iload_n (pc2 := 60) d_M_by_59 rfl rfl ?_
    refine q_icmp_ne (tgt := 70) (A := ((PA I kA fA cA gA i F).2.1).toInt) (B := v.toInt) (pc2 := 63) d_M_by_60 rfl rfl (rfl) (rfl) (fun c3 => ?_) (fun c3 => ?_)
    · refine r_iconst (v := nI 0) (pc2 := 71) d_M_by_70 rfl (by decide) ?_
      refine r_ior (pc2 := 72) d_M_by_71 rfl ?_
      refine q_top (y := bits P (i + 1)) (by rw [or_0]; rw [bits_s, if_neg (by rw [hP]; simp only [decide_eq_true_eq]; exact fun q => c3 (congrArg Int32.toInt q))]) ?_
      refine r_istore_n (pc2 := 73) d_M_by_72 rfl rfl (Nat.le_of_ble_eq_true rfl) ?_
      refine q_iinc (b := 1) (pc2 := 76) d_M_by_73 rfl rfl (by decide) (Nat.le_of_ble_eq_true rfl) ?_
      refine r_goto (tgt := 32) d_M_by_76 rfl ?_
      refine Run.sub (l2 := [(0, .ref 761), (1, .int (nI F)), (2, .int v), (3, .int (bits P (i + 1))), (4, .int (nI (i + 1)))]) ⟨rfl, rfl, rfl, rfl, rfl, trivial⟩ ?_
      exact ih_ (nP - (i + 1)) (by omega) (i + 1) J2 rfl (hJ2) (by omega)
    · refine r_iconst (v := nI 1) (pc2 := 64) d_M_by_63 rfl (by decide) ?_
      refine r_iload (pc2 := 66) d_M_by_64 rfl rfl ?_
      refine r_ishl (pc2 := 67) d_M_by_66 rfl ?_
      refine r_goto (tgt := 71) d_M_by_67 rfl ?_
      refine r_ior (pc2 := 72) d_M_by_71 rfl ?_
      refine q_top (y := bits P (i + 1)) (by rw [bits_s, if_pos (by rw [hP]; exact decide_eq_true (Int32.toInt_inj.mp c3))]) ?_
      refine r_istore_n (pc2 := 73) d_M_by_72 rfl rfl (Nat.le_of_ble_eq_true rfl) ?_
      refine q_iinc (b := 1) (pc2 := 76) d_M_by_73 rfl rfl (by decide) (Nat.le_of_ble_eq_true rfl) ?_
      refine r_goto (tgt := 32) d_M_by_76 rfl ?_
      refine Run.sub (l2 := [(0, .ref 761), (1, .int (nI F)), (2, .int v), (3, .int (bits P (i + 1))), (4, .int (nI (i + 1)))]) ⟨rfl, rfl, rfl, rfl, rfl, trivial⟩ ?_
      exact ih_ (nP - (i + 1)) (by omega) (i + 1) J2 rfl (hJ2) (by omega)
theorem c_M_by {d : Nat} {I : Nat → Nat → Int32} {R : Nat → Nat → Option Nat} {L : Nat → Nat → Int64} {sh : Nat → Nat × Nat} {N : Nat} (hS : ShOK sh) (hR : RfOK R) {kA fA cA gA nk nt : Nat} (hT : TRf R sh kA fA cA gA nk) (hTn : TNe kA fA cA gA) (hV : TV (I kA) (I fA) (I cA) nt) (hnt : nt ≤ nk) (hnk : nk ≤ 1000000) {nP nF : Nat} (hW : WFA (I 762) nP nF nt) {rk : Nat → Nat} (hrk : RK (I 762) nF rk) {f : Int32} {v : Int32} (hd : nt + 40 ≤ d) : Mt mi_M_by d 0 0 [.ref 761, .int f, .int v] (I, R, L, sh, N) (RQ I R L sh N (o_by (PA I kA fA cA gA) nP nF f v)) := by
  obtain ⟨hPc, hP24, hFc, hF12, hWF, hWP⟩ := id hW
  refine Mt.of pn_M (Nat.le_of_ble_eq_true rfl) ?_
  show Run mi_M_by d 0 0 0 [(0, .ref 761), (1, .int f), (2, .int v)] [] (I, R, L, sh, N) _
  refine r_aload_n (x := some 761) (pc2 := 1) d_M_by_0 rfl rfl ?_
  refine r_iload_n (pc2 := 2) d_M_by_1 rfl rfl ?_
  refine q_callv (M2 := mi_M_isFeature) (pc2 := 5) d_M_by_2 rfl k_M_72 cm_M_isFeature cv_M_isFeature (sh_761 hS) (by decide) rfl rfl rfl (Nat.le_of_ble_eq_true rfl) (c_M_isFeature (I := I) (nF := nF) (f := f) hS hR (hFc) hF12 (by omega)) (d2 := d - 1) (by omega) (Nat.le_of_eq (Nat.zero_add _)) (Nat.le_of_eq (Nat.zero_add _)) ?_
  refine q_bif_eq (tgt := 20) (pc2 := 8) d_M_by_5 rfl rfl (fun c1 => ?_) (fun c1 => ?_)
  · refine r_aload_n (x := some 761) (pc2 := 21) d_M_by_20 rfl rfl ?_
    refine r_bipush (v := (-32 : Int32)) (pc2 := 23) d_M_by_21 rfl (by decide) ?_
    refine q_callv (M2 := mi_M_refused) (pc2 := 26) d_M_by_23 rfl k_M_106 cm_M_refused cv_M_refused (sh_761 hS) (by decide) rfl rfl rfl (Nat.le_of_ble_eq_true rfl) (c_M_refused_0 (I := I) hS hR) (d2 := d - 1) (by omega) (Nat.le_of_eq (Nat.zero_add _)) (Nat.le_of_eq (Nat.zero_add _)) ?_
    obtain ⟨I2, hI2⟩ : ∃ x, x = u2 I 765 0 (I 765 0 + nI 1) := ⟨_, rfl⟩
    rw [← hI2]
    refine Run.ret (some (.int ((-32 : Int32)))) d_M_by_26 ⟨_, rfl⟩ ?_
    exact RQ.bad 0 (by unfold o_by; rw [if_neg (by omega)]) (by decide) FrS.rf hI2
  · refine r_iload_n (pc2 := 9) d_M_by_8 rfl rfl ?_
    refine r_i2l (pc2 := 10) d_M_by_9 rfl ?_
    refine r_lconst (v := (1 : Int64)) (pc2 := 11) d_M_by_10 rfl (by decide) ?_
    refine r_ldc2 (pc2 := 14) d_M_by_11 rfl k_M_253 ?_
    refine q_calls (M2 := mi_M_in) (pc2 := 17) d_M_by_14 rfl k_M_68 cm_M_in cs_M_in rfl rfl (Nat.le_of_ble_eq_true rfl) (c_M_in (A := v.toInt) (B := (1 : Int)) (C := (7 : Int)) (toInt64_toInt (rfl)) (by decide) (by decide)) (d2 := d - 1) (by omega) (Nat.le_of_eq (Nat.zero_add _)) (Nat.le_of_eq (Nat.zero_add _)) ?_
    refine q_bif_ne (tgt := 27) (pc2 := 20) d_M_by_17 rfl rfl (fun c3 => ?_) (fun c3 => ?_)
    · obtain ⟨F, hF, rfl, eF⟩ := nat_of c1
      refine r_iconst (v := nI 0) (pc2 := 28) d_M_by_27 rfl (by decide) ?_
      refine r_istore_n (pc2 := 29) d_M_by_28 rfl rfl (Nat.le_of_ble_eq_true rfl) ?_
      refine r_iconst (v := nI 0) (pc2 := 30) d_M_by_29 rfl (by decide) ?_
      refine r_istore (pc2 := 32) d_M_by_30 rfl (Nat.le_of_ble_eq_true rfl) ?_
      refine Run.sub (l2 := [(0, .ref 761), (1, .int (nI F)), (2, .int v), (3, .int (nI 0)), (4, .int (nI 0))]) ⟨rfl, rfl, rfl, rfl, rfl, trivial⟩ ?_
      exact l_M_by hS hR hT hTn hV hnt hnk hW hrk hF (P := fun p => decide ((PA I kA fA cA gA p F).2.1 = v)) (fun p => rfl) (fun J hJ => RQ.val (by unfold o_by; rw [if_pos (by omega), eF, Int.toNat_natCast]) hJ) (by omega) _ 0 I rfl FrS.rf (by omega)
    · refine r_aload_n (x := some 761) (pc2 := 21) d_M_by_20 rfl rfl ?_
      refine r_bipush (v := (-32 : Int32)) (pc2 := 23) d_M_by_21 rfl (by decide) ?_
      refine q_callv (M2 := mi_M_refused) (pc2 := 26) d_M_by_23 rfl k_M_106 cm_M_refused cv_M_refused (sh_761 hS) (by decide) rfl rfl rfl (Nat.le_of_ble_eq_true rfl) (c_M_refused_0 (I := I) hS hR) (d2 := d - 1) (by omega) (Nat.le_of_eq (Nat.zero_add _)) (Nat.le_of_eq (Nat.zero_add _)) ?_
      obtain ⟨I4, hI4⟩ : ∃ x, x = u2 I 765 0 (I 765 0 + nI 1) := ⟨_, rfl⟩
      rw [← hI4]
      refine Run.ret (some (.int ((-32 : Int32)))) d_M_by_26 ⟨_, rfl⟩ ?_
      exact RQ.bad 0 (by unfold o_by; rw [if_neg (by omega)]) (by decide) FrS.rf hI4
theorem l_M_overlap {d : Nat} {I : Nat → Nat → Int32} {R : Nat → Nat → Option Nat} {L : Nat → Nat → Int64} {sh : Nat → Nat × Nat} {N : Nat} (hS : ShOK sh) (hR : RfOK R) {kA fA cA gA nk nt : Nat} (hT : TRf R sh kA fA cA gA nk) (hTn : TNe kA fA cA gA) (hV : TV (I kA) (I fA) (I cA) nt) (hnt : nt ≤ nk) (hnk : nk ≤ 1000000) {nP nF : Nat} (hW : WFA (I 762) nP nF nt) {rk : Nat → Nat} (hrk : RK (I 762) nF rk) {F : Nat} (hF : F < nF) {E : Nat} (hE : E < nF) {P : Nat → Bool} (hP : ∀ p, P p = (decide ((PA I kA fA cA gA p F).1 ≠ 0) && decide ((PA I kA fA cA gA p E).1 ≠ 0))) {Q : Option Value → HS → Prop} (hq : ∀ J, FrS I J → Q (some (.int (bits P nP))) (J, R, L, sh, N)) (hd : nt + 35 ≤ d) : ∀ (n_ : Nat) (i : Nat) (J : Nat → Nat → Int32), nP - i = n_ → (FrS I J) → (i ≤ nP) → Run mi_M_overlap d 0 0 28 [(0, .ref 761), (1, .int (nI F)), (2, .int (nI E)), (3, .int (bits P i)), (4, .int (nI i))] [] (J, R, L, sh, N) Q := by
  intro n_
  induction n_ using Nat.strongRecOn with | ind n_ ih_ => ?_
  intro i J hn_ v0_ v1_
  have hG : J 762 = I 762 := v0_.row (by decide) (by decide) (by decide)
  obtain ⟨hn1, hn2, hn3, hn4⟩ := id hTn
  have hk_ : J kA = I kA := v0_.row (by omega) (by omega) (by omega)
  have hf_ : J fA = I fA := v0_.row (by omega) (by omega) (by omega)
  have hc_ : J cA = I cA := v0_.row (by omega) (by omega) (by omega)
  have hg_ : J gA = I gA := v0_.row (by omega) (by omega) (by omega)
  obtain ⟨hPc, hP24, hFc, hF12, hWF, hWP⟩ := id hW
  refine r_iload (pc2 := 30) d_M_overlap_28 rfl rfl ?_
  refine r_aload_n (x := some 761) (pc2 := 31) d_M_overlap_30 rfl rfl ?_
  refine q_getR (x := some 762) (pc2 := 34) d_M_overlap_31 rfl k_M_9 rfl (sh_761 hS) (rf_761_0 hR) ?_
  refine r_iconst (v := nI 0) (pc2 := 35) d_M_overlap_34 rfl (by decide) ?_
  refine q_iaload (q := 0) (x := nI nP) (pc2 := 36) d_M_overlap_35 rfl (sh_762 hS) (nI_toInt (by omega)) (by omega) ((congrFun hG _).trans (hPc)) ?_
  refine q_icmp_ge (tgt := 76) (A := ((i : Nat) : Int)) (B := ((nP : Nat) : Int)) (pc2 := 39) d_M_overlap_36 rfl rfl (nI_toInt (by omega)) (nI_toInt (by omega)) (fun c1 => ?_) (fun c1 => ?_)
  · refine r_iload_n (pc2 := 77) d_M_overlap_76 rfl rfl ?_
    refine Run.ret (some (.int (bits P i))) d_M_overlap_77 ⟨_, rfl⟩ ?_
    rw [show i = nP by omega]; exact hq _ v0_
  · refine r_iload_n (pc2 := 40) d_M_overlap_39 rfl rfl ?_
    refine r_aload_n (x := some 761) (pc2 := 41) d_M_overlap_40 rfl rfl ?_
    refine r_iload_n (pc2 := 42) d_M_overlap_41 rfl rfl ?_
    refine r_iload (pc2 := 44) d_M_overlap_42 rfl rfl ?_
    refine r_callv (M2 := mi_M_fresh) (pc2 := 47) d_M_overlap_44 rfl k_M_201 cm_M_fresh cv_M_fresh (sh_761 hS) (by decide) rfl rfl rfl (Nat.le_of_ble_eq_true rfl) (c_M_freshJ hS hR hT hTn hV hnt hnk hW hrk (p := i) (by omega) (F := F) (by omega) v0_ (d := d - 1) (by omega)) (d2 := d - 1) (by omega) (Nat.le_of_eq (Nat.zero_add _)) (Nat.le_of_eq (Nat.zero_add _)) (fun r2 h2 hq2 => ?_)
    obtain ⟨J2, rfl, rfl, hJ2, hq2a, hq2b, hq2c⟩ := hq2
    change Run _ _ _ _ _ _ [.int ((PA I kA fA cA gA i F).1), .int (bits P i)] _ _
    have hGJ2 : J2 762 = I 762 := hJ2.row (by decide) (by decide) (by decide)
    have hk_J2 : J2 kA = I kA := hJ2.row (by omega) (by omega) (by omega)
    have hf_J2 : J2 fA = I fA := hJ2.row (by omega) (by omega) (by omega)
    have hc_J2 : J2 cA = I cA := hJ2.row (by omega) (by omega) (by omega)
    have hg_J2 : J2 gA = I gA := hJ2.row (by omega) (by omega) (by omega)
    refine q_if_eq (tgt := 67) (A := ((PA I kA fA cA gA i F).1).toInt) (pc2 := 50) d_M_overlap_47 rfl rfl (rfl) (fun c3 => ?_) (fun c3 => ?_)
    · refine r_iconst (v := nI 0) (pc2 := 68) d_M_overlap_67 rfl (by decide) ?_
      refine r_ior (pc2 := 69) d_M_overlap_68 rfl ?_
      refine q_top (y := bits P (i + 1)) (by rw [or_0]; rw [bits_s, if_neg (by rw [hP]; simp only [Bool.and_eq_true, decide_eq_true_eq]; exact fun q => absurd (Int32.toInt_inj.mp (c3.trans (show (0 : Int) = (0 : Int32).toInt from rfl))) (by first | exact q.2 | exact q.1))]) ?_
      refine r_istore_n (pc2 := 70) d_M_overlap_69 rfl rfl (Nat.le_of_ble_eq_true rfl) ?_
      refine q_iinc (b := 1) (pc2 := 73) d_M_overlap_70 rfl rfl (by decide) (Nat.le_of_ble_eq_true rfl) ?_
      refine r_goto (tgt := 28) d_M_overlap_73 rfl ?_
      refine Run.sub (l2 := [(0, .ref 761), (1, .int (nI F)), (2, .int (nI E)), (3, .int (bits P (i + 1))), (4, .int (nI (i + 1)))]) ⟨rfl, rfl, rfl, rfl, rfl, trivial⟩ ?_
      exact ih_ (nP - (i + 1)) (by omega) (i + 1) J2 rfl (hJ2) (by omega)
    · refine r_aload_n (x := some 761) (pc2 := 51) d_M_overlap_50 rfl rfl ?_
      refine r_iload_n (pc2 := 52) d_M_overlap_51 rfl rfl ?_
      refine r_iload (pc2 := 54) d_M_overlap_52 rfl rfl ?_
      refine r_callv (M2 := mi_M_fresh) (pc2 := 57) d_M_overlap_54 rfl k_M_201 cm_M_fresh cv_M_fresh (sh_761 hS) (by decide) rfl rfl rfl (Nat.le_of_ble_eq_true rfl) (c_M_freshJ hS hR hT hTn hV hnt hnk hW hrk (p := i) (by omega) (F := E) (by omega) hJ2 (d := d - 1) (by omega)) (d2 := d - 1) (by omega) (Nat.le_of_eq (Nat.zero_add _)) (Nat.le_of_eq (Nat.zero_add _)) (fun r2 h2 hq2 => ?_)
      obtain ⟨J4, rfl, rfl, hJ4, hq2a, hq2b, hq2c⟩ := hq2
      change Run _ _ _ _ _ _ [.int ((PA I kA fA cA gA i E).1), .int (bits P i)] _ _
      have hGJ4 : J4 762 = I 762 := hJ4.row (by decide) (by decide) (by decide)
      have hk_J4 : J4 kA = I kA := hJ4.row (by omega) (by omega) (by omega)
      have hf_J4 : J4 fA = I fA := hJ4.row (by omega) (by omega) (by omega)
      have hc_J4 : J4 cA = I cA := hJ4.row (by omega) (by omega) (by omega)
      have hg_J4 : J4 gA = I gA := hJ4.row (by omega) (by omega) (by omega)
      refine q_if_eq (tgt := 67) (A := ((PA I kA fA cA gA i E).1).toInt) (pc2 := 60) d_M_overlap_57 rfl rfl (rfl) (fun c5 => ?_) (fun c5 => ?_)
      · refine r_iconst (v := nI 0) (pc2 := 68) d_M_overlap_67 rfl (by decide) ?_
        refine r_ior (pc2 := 69) d_M_overlap_68 rfl ?_
        refine q_top (y := bits P (i + 1)) (by rw [or_0]; rw [bits_s, if_neg (by rw [hP]; simp only [Bool.and_eq_true, decide_eq_true_eq]; exact fun q => absurd (Int32.toInt_inj.mp (c5.trans (show (0 : Int) = (0 : Int32).toInt from rfl))) (by first | exact q.2 | exact q.1))]) ?_
        refine r_istore_n (pc2 := 70) d_M_overlap_69 rfl rfl (Nat.le_of_ble_eq_true rfl) ?_
        refine q_iinc (b := 1) (pc2 := 73) d_M_overlap_70 rfl rfl (by decide) (Nat.le_of_ble_eq_true rfl) ?_
        refine r_goto (tgt := 28) d_M_overlap_73 rfl ?_
        refine Run.sub (l2 := [(0, .ref 761), (1, .int (nI F)), (2, .int (nI E)), (3, .int (bits P (i + 1))), (4, .int (nI (i + 1)))]) ⟨rfl, rfl, rfl, rfl, rfl, trivial⟩ ?_
        exact ih_ (nP - (i + 1)) (by omega) (i + 1) J4 rfl (hJ4) (by omega)
      · refine r_iconst (v := nI 1) (pc2 := 61) d_M_overlap_60 rfl (by decide) ?_
        refine r_iload (pc2 := 63) d_M_overlap_61 rfl rfl ?_
        refine r_ishl (pc2 := 64) d_M_overlap_63 rfl ?_
        refine r_goto (tgt := 68) d_M_overlap_64 rfl ?_
        refine r_ior (pc2 := 69) d_M_overlap_68 rfl ?_
        refine q_top (y := bits P (i + 1)) (by rw [bits_s, if_pos (by rw [hP]; simp only [Bool.and_eq_true, decide_eq_true_eq]; exact ⟨fun q => c3 (by rw [q]; rfl), fun q => c5 (by rw [q]; rfl)⟩)]) ?_
        refine r_istore_n (pc2 := 70) d_M_overlap_69 rfl rfl (Nat.le_of_ble_eq_true rfl) ?_
        refine q_iinc (b := 1) (pc2 := 73) d_M_overlap_70 rfl rfl (by decide) (Nat.le_of_ble_eq_true rfl) ?_
        refine r_goto (tgt := 28) d_M_overlap_73 rfl ?_
        refine Run.sub (l2 := [(0, .ref 761), (1, .int (nI F)), (2, .int (nI E)), (3, .int (bits P (i + 1))), (4, .int (nI (i + 1)))]) ⟨rfl, rfl, rfl, rfl, rfl, trivial⟩ ?_
        exact ih_ (nP - (i + 1)) (by omega) (i + 1) J4 rfl (hJ4) (by omega)
theorem c_M_overlap {d : Nat} {I : Nat → Nat → Int32} {R : Nat → Nat → Option Nat} {L : Nat → Nat → Int64} {sh : Nat → Nat × Nat} {N : Nat} (hS : ShOK sh) (hR : RfOK R) {kA fA cA gA nk nt : Nat} (hT : TRf R sh kA fA cA gA nk) (hTn : TNe kA fA cA gA) (hV : TV (I kA) (I fA) (I cA) nt) (hnt : nt ≤ nk) (hnk : nk ≤ 1000000) {nP nF : Nat} (hW : WFA (I 762) nP nF nt) {rk : Nat → Nat} (hrk : RK (I 762) nF rk) {f : Int32} {g : Int32} (hd : nt + 40 ≤ d) : Mt mi_M_overlap d 0 0 [.ref 761, .int f, .int g] (I, R, L, sh, N) (RQ I R L sh N (o_overlap (PA I kA fA cA gA) nP nF f g)) := by
  obtain ⟨hPc, hP24, hFc, hF12, hWF, hWP⟩ := id hW
  refine Mt.of pn_M (Nat.le_of_ble_eq_true rfl) ?_
  show Run mi_M_overlap d 0 0 0 [(0, .ref 761), (1, .int f), (2, .int g)] [] (I, R, L, sh, N) _
  refine r_aload_n (x := some 761) (pc2 := 1) d_M_overlap_0 rfl rfl ?_
  refine r_iload_n (pc2 := 2) d_M_overlap_1 rfl rfl ?_
  refine q_callv (M2 := mi_M_isFeature) (pc2 := 5) d_M_overlap_2 rfl k_M_72 cm_M_isFeature cv_M_isFeature (sh_761 hS) (by decide) rfl rfl rfl (Nat.le_of_ble_eq_true rfl) (c_M_isFeature (I := I) (nF := nF) (f := f) hS hR (hFc) hF12 (by omega)) (d2 := d - 1) (by omega) (Nat.le_of_eq (Nat.zero_add _)) (Nat.le_of_eq (Nat.zero_add _)) ?_
  refine q_bif_eq (tgt := 16) (pc2 := 8) d_M_overlap_5 rfl rfl (fun c1 => ?_) (fun c1 => ?_)
  · refine r_aload_n (x := some 761) (pc2 := 17) d_M_overlap_16 rfl rfl ?_
    refine r_bipush (v := (-32 : Int32)) (pc2 := 19) d_M_overlap_17 rfl (by decide) ?_
    refine q_callv (M2 := mi_M_refused) (pc2 := 22) d_M_overlap_19 rfl k_M_106 cm_M_refused cv_M_refused (sh_761 hS) (by decide) rfl rfl rfl (Nat.le_of_ble_eq_true rfl) (c_M_refused_0 (I := I) hS hR) (d2 := d - 1) (by omega) (Nat.le_of_eq (Nat.zero_add _)) (Nat.le_of_eq (Nat.zero_add _)) ?_
    obtain ⟨I2, hI2⟩ : ∃ x, x = u2 I 765 0 (I 765 0 + nI 1) := ⟨_, rfl⟩
    rw [← hI2]
    refine Run.ret (some (.int ((-32 : Int32)))) d_M_overlap_22 ⟨_, rfl⟩ ?_
    exact RQ.bad 0 (by unfold o_overlap; rw [if_neg (by omega)]) (by decide) FrS.rf hI2
  · refine r_aload_n (x := some 761) (pc2 := 9) d_M_overlap_8 rfl rfl ?_
    refine r_iload_n (pc2 := 10) d_M_overlap_9 rfl rfl ?_
    refine q_callv (M2 := mi_M_isFeature) (pc2 := 13) d_M_overlap_10 rfl k_M_72 cm_M_isFeature cv_M_isFeature (sh_761 hS) (by decide) rfl rfl rfl (Nat.le_of_ble_eq_true rfl) (c_M_isFeature (I := I) (nF := nF) (f := g) hS hR (hFc) hF12 (by omega)) (d2 := d - 1) (by omega) (Nat.le_of_eq (Nat.zero_add _)) (Nat.le_of_eq (Nat.zero_add _)) ?_
    refine q_bif_ne (tgt := 23) (pc2 := 16) d_M_overlap_13 rfl rfl (fun c3 => ?_) (fun c3 => ?_)
    · obtain ⟨F, hF, rfl, eF⟩ := nat_of c1
      obtain ⟨E, hE, rfl, eE⟩ := nat_of c3
      refine r_iconst (v := nI 0) (pc2 := 24) d_M_overlap_23 rfl (by decide) ?_
      refine r_istore_n (pc2 := 25) d_M_overlap_24 rfl rfl (Nat.le_of_ble_eq_true rfl) ?_
      refine r_iconst (v := nI 0) (pc2 := 26) d_M_overlap_25 rfl (by decide) ?_
      refine r_istore (pc2 := 28) d_M_overlap_26 rfl (Nat.le_of_ble_eq_true rfl) ?_
      refine Run.sub (l2 := [(0, .ref 761), (1, .int (nI F)), (2, .int (nI E)), (3, .int (nI 0)), (4, .int (nI 0))]) ⟨rfl, rfl, rfl, rfl, rfl, trivial⟩ ?_
      exact l_M_overlap hS hR hT hTn hV hnt hnk hW hrk hF hE (P := fun p => decide ((PA I kA fA cA gA p F).1 ≠ 0) && decide ((PA I kA fA cA gA p E).1 ≠ 0)) (fun p => rfl) (fun J hJ => RQ.val (by unfold o_overlap; rw [if_pos (by omega), eF, eE, Int.toNat_natCast, Int.toNat_natCast]) hJ) (by omega) _ 0 I rfl FrS.rf (by omega)
    · refine r_aload_n (x := some 761) (pc2 := 17) d_M_overlap_16 rfl rfl ?_
      refine r_bipush (v := (-32 : Int32)) (pc2 := 19) d_M_overlap_17 rfl (by decide) ?_
      refine q_callv (M2 := mi_M_refused) (pc2 := 22) d_M_overlap_19 rfl k_M_106 cm_M_refused cv_M_refused (sh_761 hS) (by decide) rfl rfl rfl (Nat.le_of_ble_eq_true rfl) (c_M_refused_0 (I := I) hS hR) (d2 := d - 1) (by omega) (Nat.le_of_eq (Nat.zero_add _)) (Nat.le_of_eq (Nat.zero_add _)) ?_
      obtain ⟨I4, hI4⟩ : ∃ x, x = u2 I 765 0 (I 765 0 + nI 1) := ⟨_, rfl⟩
      rw [← hI4]
      refine Run.ret (some (.int ((-32 : Int32)))) d_M_overlap_22 ⟨_, rfl⟩ ?_
      exact RQ.bad 0 (by unfold o_overlap; rw [if_neg (by omega)]) (by decide) FrS.rf hI4
