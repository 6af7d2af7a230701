/-! THE REFERENCE: askings that are a look -/
theorem FrS.row {I J : Nat → Nat → Int32} (h : FrS I J) {a : Nat} (h1 : a ≠ 761) (h2 : a ≠ 763) (h3 : a < 771 ∨ 776 < a) : J a = I a := funext fun j => h a j (by unfold scr; omega)
theorem PA_congr {I J : Nat → Nat → Int32} {kA fA cA gA p : Nat} (hG : J 762 = I 762) (hk : J kA = I kA) (hf : J fA = I fA) (hc : J cA = I cA) (hg : J gA = I gA) : PA J kA fA cA gA p = PA I kA fA cA gA p := by
  unfold PA
  rw [hG, hk, hf, hc, hg]
def FQS (A : Nat → Int32 × Int32 × Int32) (F : Nat) (I : Nat → Nat → Int32) (R : Nat → Nat → Option Nat) (L : Nat → Nat → Int64) (sh : Nat → Nat × Nat) (N : Nat) : Option Value → HS → Prop :=
  fun r h' => ∃ K, h' = (K, R, L, sh, N) ∧ r = some (.int (A F).1) ∧ FrS I K ∧ K 772 F = (A F).1 ∧ K 773 F = (A F).2.1 ∧ K 774 F = (A F).2.2
theorem Mt.imp {M : MI} {d ac az : Nat} {args : List Value} {h : HS} {Q Q' : Option Value → HS → Prop} (hq : ∀ r x, Q r x → Q' r x) (k : Mt M d ac az args h Q) : Mt M d ac az args h Q' := by
  intro l w p e ha hc hk s m args2 below hf happ hP hK
  obtain ⟨n, o, h1, h2, h3, ⟨r, x, h4, h5, h6⟩, h7⟩ := k l w p e ha hc hk s m args2 below hf happ hP hK
  exact ⟨n, o, h1, h2, h3, ⟨r, x, h4, hq r x h5, h6⟩, h7⟩
theorem c_M_freshJ {d : Nat} {I : Nat → Nat → Int32} {R : Nat → Nat → Option Nat} {L : Nat → Nat → Int64} {sh : Nat → Nat × Nat} {N : Nat} (hS : ShOK sh) (hR : RfOK R) {kA fA cA gA nk nt : Nat} (hT : TRf R sh kA fA cA gA nk) (hTn : TNe kA fA cA gA) (hV : TV (I kA) (I fA) (I cA) nt) (hnt : nt ≤ nk) (hnk : nk ≤ 1000000) {nP nF : Nat} (hW : WFA (I 762) nP nF nt) {rk : Nat → Nat} (hrk : RK (I 762) nF rk) {p : Nat} (hp : p < nP) {F : Nat} (hF : F < nF) {J : Nat → Nat → Int32} (hJ : FrS I J) (hd : nt + 30 ≤ d) : Mt mi_M_fresh d 0 0 [.ref 761, .int (nI F), .int (nI p)] (J, R, L, sh, N) (FQS (PA I kA fA cA gA p) F I R L sh N) := by
  obtain ⟨hn1, hn2, hn3, hn4⟩ := id hTn
  have hG : J 762 = I 762 := hJ.row (by decide) (by decide) (by decide)
  have hk_ : J kA = I kA := hJ.row (by omega) (by omega) (by omega)
  have hf_ : J fA = I fA := hJ.row (by omega) (by omega) (by omega)
  have hc_ : J cA = I cA := hJ.row (by omega) (by omega) (by omega)
  have hg_ : J gA = I gA := hJ.row (by omega) (by omega) (by omega)
  have e := PA_congr (p := p) hG hk_ hf_ hc_ hg_
  refine Mt.imp (fun r x hq => ?_) (c_M_fresh (I := J) hS hR hT hTn (by rw [hk_, hf_, hc_]; exact hV) hnt hnk (by rw [hG]; exact hW) hp (by rw [hG]; exact hrk) hF hd)
  obtain ⟨K, h1, h2, h3, h4, h5, h6, h7, h8⟩ := hq
  rw [e] at h2 h5 h6 h7
  exact ⟨K, h1, h2, hJ.tr h3.s, h5, h6, h7⟩
theorem c_M_personOf {d : Nat} {I : Nat → Nat → Int32} {R : Nat → Nat → Option Nat} {L : Nat → Nat → Int64} {sh : Nat → Nat × Nat} {N : Nat} (hS : ShOK sh) (hR : RfOK R) {kA fA cA gA nk nt : Nat} (hT : TRf R sh kA fA cA gA nk) (hTn : TNe kA fA cA gA) (hV : TV (I kA) (I fA) (I cA) nt) (hnt : nt ≤ nk) (hnk : nk ≤ 1000000) {nP nF : Nat} (hW : WFA (I 762) nP nF nt) {rk : Nat → Nat} (hrk : RK (I 762) nF rk) {i : Int32} (hd : nt + 40 ≤ d) : Mt mi_M_personOf d 0 0 [.ref 761, .int i] (I, R, L, sh, N) (RQ I R L sh N (o_personOf (I 762) nP i)) := by
  obtain ⟨hPc, hP24, hFc, hF12, hWF, hWP⟩ := id hW
  refine Mt.of pn_M (Nat.le_of_ble_eq_true rfl) ?_
  show Run mi_M_personOf d 0 0 0 [(0, .ref 761), (1, .int i)] [] (I, R, L, sh, N) _
  refine r_iload_n (pc2 := 1) d_M_personOf_0 rfl rfl ?_
  refine r_i2l (pc2 := 2) d_M_personOf_1 rfl ?_
  refine r_lconst (v := (0 : Int64)) (pc2 := 3) d_M_personOf_2 rfl (by decide) ?_
  refine r_aload_n (x := some 761) (pc2 := 4) d_M_personOf_3 rfl rfl ?_
  refine q_getR (x := some 762) (pc2 := 7) d_M_personOf_4 rfl k_M_9 rfl (sh_761 hS) (rf_761_0 hR) ?_
  refine r_iconst (v := nI 0) (pc2 := 8) d_M_personOf_7 rfl (by decide) ?_
  refine q_iaload (q := 0) (x := nI nP) (pc2 := 9) d_M_personOf_8 rfl (sh_762 hS) (nI_toInt (by omega)) (by omega) hPc ?_
  refine r_iconst (v := nI 1) (pc2 := 10) d_M_personOf_9 rfl (by decide) ?_
  refine r_isub (pc2 := 11) d_M_personOf_10 rfl ?_
  refine r_i2l (pc2 := 12) d_M_personOf_11 rfl ?_
  refine q_calls (M2 := mi_M_in) (pc2 := 15) d_M_personOf_12 rfl k_M_68 cm_M_in cs_M_in rfl rfl (Nat.le_of_ble_eq_true rfl) (c_M_in (A := i.toInt) (B := (0 : Int)) (C := ((nP : Nat) : Int) - ((1 : Nat) : Int)) (toInt64_toInt (rfl)) (by decide) (toInt64_toInt (nI_sub_toInt (by omega) (by omega)))) (d2 := d - 1) (by omega) (Nat.le_of_eq (Nat.zero_add _)) (Nat.le_of_eq (Nat.zero_add _)) ?_
  refine q_bif_eq (tgt := 26) (pc2 := 18) d_M_personOf_15 rfl rfl (fun c1 => ?_) (fun c1 => ?_)
  · refine r_aload_n (x := some 761) (pc2 := 27) d_M_personOf_26 rfl rfl ?_
    refine r_bipush (v := (-32 : Int32)) (pc2 := 29) d_M_personOf_27 rfl (by decide) ?_
    refine q_callv (M2 := mi_M_refused) (pc2 := 32) d_M_personOf_29 rfl k_M_106 cm_M_refused cv_M_refused (sh_761 hS) (by decide) rfl rfl rfl (Nat.le_of_ble_eq_true rfl) (c_M_refused_0 (I := I) hS hR) (d2 := d - 1) (by omega) (Nat.le_of_eq (Nat.zero_add _)) (Nat.le_of_eq (Nat.zero_add _)) ?_
    obtain ⟨I2, hI2⟩ : ∃ x, x = u2 I 765 0 (I 765 0 + nI 1) := ⟨_, rfl⟩
    rw [← hI2]
    refine Run.ret (some (.int ((-32 : Int32)))) d_M_personOf_32 ⟨_, rfl⟩ ?_
    exact RQ.bad 0 (by unfold o_personOf; rw [if_neg (by omega)]) (by decide) FrS.rf hI2
  · obtain ⟨i, hi, rfl, ei⟩ := nat_of (show 0 ≤ i.toInt ∧ i.toInt < (nP : Int) by omega)
    refine r_aload_n (x := some 761) (pc2 := 19) d_M_personOf_18 rfl rfl ?_
    refine r_iload_n (pc2 := 20) d_M_personOf_19 rfl rfl ?_
    refine q_callv (M2 := mi_M_keyOf) (pc2 := 23) d_M_personOf_20 rfl k_M_84 cm_M_keyOf cv_M_keyOf (sh_761 hS) (by decide) rfl rfl rfl (Nat.le_of_ble_eq_true rfl) (c_M_keyOf (I := I) (p := i) hS hR (by omega)) (d2 := d - 1) (by omega) (Nat.le_of_eq (Nat.zero_add _)) (Nat.le_of_eq (Nat.zero_add _)) ?_
    refine r_goto (tgt := 32) d_M_personOf_23 rfl ?_
    refine Run.ret (some (.int (I 762 (6 + 2 * i)))) d_M_personOf_32 ⟨_, rfl⟩ ?_
    exact RQ.val (by unfold o_personOf; rw [if_pos (by omega), ei, Int.toNat_natCast]) FrS.rf
theorem c_M_attributes {d : Nat} {I : Nat → Nat → Int32} {R : Nat → Nat → Option Nat} {L : Nat → Nat → Int64} {sh : Nat → Nat × Nat} {N : Nat} (hS : ShOK sh) (hR : RfOK R) {kA fA cA gA nk nt : Nat} (hT : TRf R sh kA fA cA gA nk) (hTn : TNe kA fA cA gA) (hV : TV (I kA) (I fA) (I cA) nt) (hnt : nt ≤ nk) (hnk : nk ≤ 1000000) {nP nF : Nat} (hW : WFA (I 762) nP nF nt) {rk : Nat → Nat} (hrk : RK (I 762) nF rk) {key : Int32} (hd : nt + 40 ≤ d) : Mt mi_M_attributes d 0 0 [.ref 761, .int key] (I, R, L, sh, N) (RQ I R L sh N (o_attributes (I 762) nP key)) := by
  obtain ⟨hPc, hP24, hFc, hF12, hWF, hWP⟩ := id hW
  refine Mt.of pn_M (Nat.le_of_ble_eq_true rfl) ?_
  show Run mi_M_attributes d 0 0 0 [(0, .ref 761), (1, .int key)] [] (I, R, L, sh, N) _
  refine r_aload_n (x := some 761) (pc2 := 1) d_M_attributes_0 rfl rfl ?_
  refine r_iload_n (pc2 := 2) d_M_attributes_1 rfl rfl ?_
  refine q_callv (M2 := mi_M_personBy) (pc2 := 5) d_M_attributes_2 rfl k_M_204 cm_M_personBy cv_M_personBy (sh_761 hS) (by decide) rfl rfl rfl (Nat.le_of_ble_eq_true rfl) (c_M_personBy (I := I) (nP := nP) (key := key) hS hR (hPc) hP24 (by omega)) (d2 := d - 1) (by omega) (Nat.le_of_eq (Nat.zero_add _)) (Nat.le_of_eq (Nat.zero_add _)) ?_
  refine r_istore_n (pc2 := 6) d_M_attributes_5 rfl rfl (Nat.le_of_ble_eq_true rfl) ?_
  cases hob : pB (I 762) nP key with
  | none =>
    refine r_iload_n (pc2 := 7) d_M_attributes_6 rfl rfl ?_
    refine q_if_lt (tgt := 26) (A := (-1 : Int)) (pc2 := 10) d_M_attributes_7 rfl rfl (by decide) (fun c1 => ?_) (fun c1 => ?_)
    · refine r_aload_n (x := some 761) (pc2 := 27) d_M_attributes_26 rfl rfl ?_
      refine r_bipush (v := (-32 : Int32)) (pc2 := 29) d_M_attributes_27 rfl (by decide) ?_
      refine q_callv (M2 := mi_M_refused) (pc2 := 32) d_M_attributes_29 rfl k_M_106 cm_M_refused cv_M_refused (sh_761 hS) (by decide) rfl rfl rfl (Nat.le_of_ble_eq_true rfl) (c_M_refused_0 (I := I) hS hR) (d2 := d - 1) (by omega) (Nat.le_of_eq (Nat.zero_add _)) (Nat.le_of_eq (Nat.zero_add _)) ?_
      obtain ⟨I2, hI2⟩ : ∃ x, x = u2 I 765 0 (I 765 0 + nI 1) := ⟨_, rfl⟩
      rw [← hI2]
      refine Run.ret (some (.int ((-32 : Int32)))) d_M_attributes_32 ⟨_, rfl⟩ ?_
      exact RQ.bad 0 (by unfold o_attributes; rw [hob]) (by decide) FrS.rf hI2
    · exfalso; omega
  | some p =>
    obtain ⟨hp, hp2, -⟩ := fst1_spec (show fst1 _ _ = some p from hob)
    refine r_iload_n (pc2 := 7) d_M_attributes_6 rfl rfl ?_
    refine q_if_lt (tgt := 26) (A := ((p : Nat) : Int)) (pc2 := 10) d_M_attributes_7 rfl rfl (nI_toInt (by omega)) (fun c3 => ?_) (fun c3 => ?_)
    · exfalso; omega
    · refine r_aload_n (x := some 761) (pc2 := 11) d_M_attributes_10 rfl rfl ?_
      refine q_getR (x := some 762) (pc2 := 14) d_M_attributes_11 rfl k_M_9 rfl (sh_761 hS) (rf_761_0 hR) ?_
      refine r_bipush (v := nI 6) (pc2 := 16) d_M_attributes_14 rfl (by decide) ?_
      refine r_iconst (v := nI 2) (pc2 := 17) d_M_attributes_16 rfl (by decide) ?_
      refine r_iload_n (pc2 := 18) d_M_attributes_17 rfl rfl ?_
      refine q_imulN (pc2 := 19) d_M_attributes_18 rfl ?_
      refine q_iaddN (pc2 := 20) d_M_attributes_19 rfl ?_
      refine r_iconst (v := nI 1) (pc2 := 21) d_M_attributes_20 rfl (by decide) ?_
      refine q_iaddN (pc2 := 22) d_M_attributes_21 rfl ?_
      refine q_iaload (q := 6 + 2 * p + 1) (x := I 762 (6 + 2 * p + 1)) (pc2 := 23) d_M_attributes_22 rfl (sh_762 hS) (nI_toInt (by omega)) (by omega) rfl ?_
      refine r_goto (tgt := 32) d_M_attributes_23 rfl ?_
      refine Run.ret (some (.int (I 762 (6 + 2 * p + 1)))) d_M_attributes_32 ⟨_, rfl⟩ ?_
      exact RQ.val (by unfold o_attributes; rw [hob]) FrS.rf
theorem c_M_bucket {d : Nat} {I : Nat → Nat → Int32} {R : Nat → Nat → Option Nat} {L : Nat → Nat → Int64} {sh : Nat → Nat × Nat} {N : Nat} (hS : ShOK sh) (hR : RfOK R) {kA fA cA gA nk nt : Nat} (hT : TRf R sh kA fA cA gA nk) (hTn : TNe kA fA cA gA) (hV : TV (I kA) (I fA) (I cA) nt) (hnt : nt ≤ nk) (hnk : nk ≤ 1000000) {nP nF : Nat} (hW : WFA (I 762) nP nF nt) {rk : Nat → Nat} (hrk : RK (I 762) nF rk) {s : Int32} {k : Int32} (hd : nt + 40 ≤ d) : Mt mi_M_bucket d 0 0 [.ref 761, .int s, .int k] (I, R, L, sh, N) (RQ I R L sh N (o_bucket s k)) := by
  obtain ⟨hPc, hP24, hFc, hF12, hWF, hWP⟩ := id hW
  refine Mt.of pn_M (Nat.le_of_ble_eq_true rfl) ?_
  show Run mi_M_bucket d 0 0 0 [(0, .ref 761), (1, .int s), (2, .int k)] [] (I, R, L, sh, N) _
  refine r_iload_n (pc2 := 1) d_M_bucket_0 rfl rfl ?_
  refine r_i2l (pc2 := 2) d_M_bucket_1 rfl ?_
  refine r_lconst (v := (0 : Int64)) (pc2 := 3) d_M_bucket_2 rfl (by decide) ?_
  refine r_ldc2 (pc2 := 6) d_M_bucket_3 rfl k_M_219 ?_
  refine q_calls (M2 := mi_M_in) (pc2 := 9) d_M_bucket_6 rfl k_M_68 cm_M_in cs_M_in rfl rfl (Nat.le_of_ble_eq_true rfl) (c_M_in (A := s.toInt) (B := (0 : Int)) (C := (200 : Int)) (toInt64_toInt (rfl)) (by decide) (by decide)) (d2 := d - 1) (by omega) (Nat.le_of_eq (Nat.zero_add _)) (Nat.le_of_eq (Nat.zero_add _)) ?_
  refine q_bif_eq (tgt := 32) (pc2 := 12) d_M_bucket_9 rfl rfl (fun c1 => ?_) (fun c1 => ?_)
  · refine r_aload_n (x := some 761) (pc2 := 33) d_M_bucket_32 rfl rfl ?_
    refine r_bipush (v := (-32 : Int32)) (pc2 := 35) d_M_bucket_33 rfl (by decide) ?_
    refine q_callv (M2 := mi_M_refused) (pc2 := 38) d_M_bucket_35 rfl k_M_106 cm_M_refused cv_M_refused (sh_761 hS) (by decide) rfl rfl rfl (Nat.le_of_ble_eq_true rfl) (c_M_refused_0 (I := I) hS hR) (d2 := d - 1) (by omega) (Nat.le_of_eq (Nat.zero_add _)) (Nat.le_of_eq (Nat.zero_add _)) ?_
    obtain ⟨I2, hI2⟩ : ∃ x, x = u2 I 765 0 (I 765 0 + nI 1) := ⟨_, rfl⟩
    rw [← hI2]
    refine Run.ret (some (.int ((-32 : Int32)))) d_M_bucket_38 ⟨_, rfl⟩ ?_
    exact RQ.bad 0 (by unfold o_bucket; rw [if_neg (by omega)]) (by decide) FrS.rf hI2
  · refine r_iload_n (pc2 := 13) d_M_bucket_12 rfl rfl ?_
    refine r_i2l (pc2 := 14) d_M_bucket_13 rfl ?_
    refine r_lconst (v := (0 : Int64)) (pc2 := 15) d_M_bucket_14 rfl (by decide) ?_
    refine r_ldc2 (pc2 := 18) d_M_bucket_15 rfl k_M_212 ?_
    refine q_calls (M2 := mi_M_in) (pc2 := 21) d_M_bucket_18 rfl k_M_68 cm_M_in cs_M_in rfl rfl (Nat.le_of_ble_eq_true rfl) (c_M_in (A := k.toInt) (B := (0 : Int)) (C := (999999 : Int)) (toInt64_toInt (rfl)) (by decide) (by decide)) (d2 := d - 1) (by omega) (Nat.le_of_eq (Nat.zero_add _)) (Nat.le_of_eq (Nat.zero_add _)) ?_
    refine q_bif_eq (tgt := 32) (pc2 := 24) d_M_bucket_21 rfl rfl (fun c3 => ?_) (fun c3 => ?_)
    · refine r_aload_n (x := some 761) (pc2 := 33) d_M_bucket_32 rfl rfl ?_
      refine r_bipush (v := (-32 : Int32)) (pc2 := 35) d_M_bucket_33 rfl (by decide) ?_
      refine q_callv (M2 := mi_M_refused) (pc2 := 38) d_M_bucket_35 rfl k_M_106 cm_M_refused cv_M_refused (sh_761 hS) (by decide) rfl rfl rfl (Nat.le_of_ble_eq_true rfl) (c_M_refused_0 (I := I) hS hR) (d2 := d - 1) (by omega) (Nat.le_of_eq (Nat.zero_add _)) (Nat.le_of_eq (Nat.zero_add _)) ?_
      obtain ⟨I4, hI4⟩ : ∃ x, x = u2 I 765 0 (I 765 0 + nI 1) := ⟨_, rfl⟩
      rw [← hI4]
      refine Run.ret (some (.int ((-32 : Int32)))) d_M_bucket_38 ⟨_, rfl⟩ ?_
      exact RQ.bad 0 (by unfold o_bucket; rw [if_neg (by omega)]) (by decide) FrS.rf hI4
    · refine r_iload_n (pc2 := 25) d_M_bucket_24 rfl rfl ?_
      refine r_iload_n (pc2 := 26) d_M_bucket_25 rfl rfl ?_
      refine q_calls (M2 := mi_M_bucketOf) (pc2 := 29) d_M_bucket_26 rfl k_M_161 cm_M_bucketOf cs_M_bucketOf rfl rfl (Nat.le_of_ble_eq_true rfl) (c_M_bucketOf (s := s) (k := k)) (d2 := d - 1) (by omega) (Nat.le_of_eq (Nat.zero_add _)) (Nat.le_of_eq (Nat.zero_add _)) ?_
      refine r_goto (tgt := 38) d_M_bucket_29 rfl ?_
      refine Run.ret (some (.int (bkt s k))) d_M_bucket_38 ⟨_, rfl⟩ ?_
      exact RQ.val (by unfold o_bucket; rw [if_pos (by omega)]) FrS.rf
theorem c_M_counted {d : Nat} {I : Nat → Nat → Int32} {R : Nat → Nat → Option Nat} {L : Nat → Nat → Int64} {sh : Nat → Nat × Nat} {N : Nat} (hS : ShOK sh) (hR : RfOK R) {kA fA cA gA nk nt : Nat} (hT : TRf R sh kA fA cA gA nk) (hTn : TNe kA fA cA gA) (hV : TV (I kA) (I fA) (I cA) nt) (hnt : nt ≤ nk) (hnk : nk ≤ 1000000) {nP nF : Nat} (hW : WFA (I 762) nP nF nt) {rk : Nat → Nat} (hrk : RK (I 762) nF rk) {f : Int32} {v : Int32} (hd : nt + 40 ≤ d) : Mt mi_M_counted d 0 0 [.ref 761, .int f, .int v] (I, R, L, sh, N) (RQ I R L sh N (o_counted (I 762) nF f v)) := by
  obtain ⟨hPc, hP24, hFc, hF12, hWF, hWP⟩ := id hW
  refine Mt.of pn_M (Nat.le_of_ble_eq_true rfl) ?_
  show Run mi_M_counted d 0 0 0 [(0, .ref 761), (1, .int f), (2, .int v)] [] (I, R, L, sh, N) _
  refine r_aload_n (x := some 761) (pc2 := 1) d_M_counted_0 rfl rfl ?_
  refine r_iload_n (pc2 := 2) d_M_counted_1 rfl rfl ?_
  refine r_iload_n (pc2 := 3) d_M_counted_2 rfl rfl ?_
  refine q_callv (M2 := mi_M_isVariant) (pc2 := 6) d_M_counted_3 rfl k_M_232 cm_M_isVariant cv_M_isVariant (sh_761 hS) (by decide) rfl rfl rfl (Nat.le_of_ble_eq_true rfl) (c_M_isVariant (I := I) (nF := nF) (f := f) (v := v) hS hR (hFc) hF12 (by omega)) (d2 := d - 1) (by omega) (Nat.le_of_eq (Nat.zero_add _)) (Nat.le_of_eq (Nat.zero_add _)) ?_
  refine q_bif_eq (tgt := 21) (pc2 := 9) d_M_counted_6 rfl rfl (fun c1 => ?_) (fun c1 => ?_)
  · refine r_aload_n (x := some 761) (pc2 := 22) d_M_counted_21 rfl rfl ?_
    refine r_bipush (v := (-32 : Int32)) (pc2 := 24) d_M_counted_22 rfl (by decide) ?_
    refine q_callv (M2 := mi_M_refused) (pc2 := 27) d_M_counted_24 rfl k_M_106 cm_M_refused cv_M_refused (sh_761 hS) (by decide) rfl rfl rfl (Nat.le_of_ble_eq_true rfl) (c_M_refused_0 (I := I) hS hR) (d2 := d - 1) (by omega) (Nat.le_of_eq (Nat.zero_add _)) (Nat.le_of_eq (Nat.zero_add _)) ?_
    obtain ⟨I2, hI2⟩ : ∃ x, x = u2 I 765 0 (I 765 0 + nI 1) := ⟨_, rfl⟩
    rw [← hI2]
    refine Run.ret (some (.int ((-32 : Int32)))) d_M_counted_27 ⟨_, rfl⟩ ?_
    exact RQ.bad 0 (by unfold o_counted; rw [if_neg (by omega)]) (by decide) FrS.rf hI2
  · obtain ⟨F, hF, rfl, eF⟩ := nat_of c1.1
    obtain ⟨V, hV1, hV2, rfl, eV⟩ := nat_of' (Int.le_refl 0) c1.2
    rw [eF, Int.toNat_natCast] at hV1 c1
    have hw0 := (hWF F hF).1
    refine r_aload_n (x := some 761) (pc2 := 10) d_M_counted_9 rfl rfl ?_
    refine r_iload_n (pc2 := 11) d_M_counted_10 rfl rfl ?_
    refine r_bipush (v := nI 10) (pc2 := 13) d_M_counted_11 rfl (by decide) ?_
    refine r_iload_n (pc2 := 14) d_M_counted_13 rfl rfl ?_
    refine q_iaddN (pc2 := 15) d_M_counted_14 rfl ?_
    refine q_callv (M2 := mi_M_of) (pc2 := 18) d_M_counted_15 rfl k_M_76 cm_M_of cv_M_of (sh_761 hS) (by decide) rfl rfl rfl (Nat.le_of_ble_eq_true rfl) (c_M_of (I := I) (F := F) (W := 10 + V) hS hR (by omega)) (d2 := d - 1) (by omega) (Nat.le_of_eq (Nat.zero_add _)) (Nat.le_of_eq (Nat.zero_add _)) ?_
    refine r_goto (tgt := 27) d_M_counted_18 rfl ?_
    refine Run.ret (some (.int (I 762 (174 + 84 * F + (10 + V))))) d_M_counted_27 ⟨_, rfl⟩ ?_
    exact RQ.val (by unfold o_counted; rw [if_pos (by rw [eF, Int.toNat_natCast]; omega), eF, eV, Int.toNat_natCast, Int.toNat_natCast]) FrS.rf
theorem c_M_kept {d : Nat} {I : Nat → Nat → Int32} {R : Nat → Nat → Option Nat} {L : Nat → Nat → Int64} {sh : Nat → Nat × Nat} {N : Nat} (hS : ShOK sh) (hR : RfOK R) {kA fA cA gA nk nt : Nat} (hT : TRf R sh kA fA cA gA nk) (hTn : TNe kA fA cA gA) (hV : TV (I kA) (I fA) (I cA) nt) (hnt : nt ≤ nk) (hnk : nk ≤ 1000000) {nP nF : Nat} (hW : WFA (I 762) nP nF nt) {rk : Nat → Nat} (hrk : RK (I 762) nF rk) {f : Int32} {key : Int32} (hd : nt + 40 ≤ d) : Mt mi_M_kept d 0 0 [.ref 761, .int f, .int key] (I, R, L, sh, N) (RQ I R L sh N (o_kept (I 762) nP nF f key)) := by
  obtain ⟨hPc, hP24, hFc, hF12, hWF, hWP⟩ := id hW
  refine Mt.of pn_M (Nat.le_of_ble_eq_true rfl) ?_
  show Run mi_M_kept d 0 0 0 [(0, .ref 761), (1, .int f), (2, .int key)] [] (I, R, L, sh, N) _
  refine r_aload_n (x := some 761) (pc2 := 1) d_M_kept_0 rfl rfl ?_
  refine r_iload_n (pc2 := 2) d_M_kept_1 rfl rfl ?_
  refine q_callv (M2 := mi_M_personBy) (pc2 := 5) d_M_kept_2 rfl k_M_204 cm_M_personBy cv_M_personBy (sh_761 hS) (by decide) rfl rfl rfl (Nat.le_of_ble_eq_true rfl) (c_M_personBy (I := I) (nP := nP) (key := key) hS hR (hPc) hP24 (by omega)) (d2 := d - 1) (by omega) (Nat.le_of_eq (Nat.zero_add _)) (Nat.le_of_eq (Nat.zero_add _)) ?_
  refine r_istore_n (pc2 := 6) d_M_kept_5 rfl rfl (Nat.le_of_ble_eq_true rfl) ?_
  cases hob : pB (I 762) nP key with
  | none =>
    refine r_aload_n (x := some 761) (pc2 := 7) d_M_kept_6 rfl rfl ?_
    refine r_iload_n (pc2 := 8) d_M_kept_7 rfl rfl ?_
    refine q_callv (M2 := mi_M_isFeature) (pc2 := 11) d_M_kept_8 rfl k_M_72 cm_M_isFeature cv_M_isFeature (sh_761 hS) (by decide) rfl rfl rfl (Nat.le_of_ble_eq_true rfl) (c_M_isFeature (I := I) (nF := nF) (f := f) hS hR (hFc) hF12 (by omega)) (d2 := d - 1) (by omega) (Nat.le_of_eq (Nat.zero_add _)) (Nat.le_of_eq (Nat.zero_add _)) ?_
    refine q_bif_eq (tgt := 18) (pc2 := 14) d_M_kept_11 rfl rfl (fun c1 => ?_) (fun c1 => ?_)
    · refine r_aload_n (x := some 761) (pc2 := 19) d_M_kept_18 rfl rfl ?_
      refine r_bipush (v := (-32 : Int32)) (pc2 := 21) d_M_kept_19 rfl (by decide) ?_
      refine q_callv (M2 := mi_M_refused) (pc2 := 24) d_M_kept_21 rfl k_M_106 cm_M_refused cv_M_refused (sh_761 hS) (by decide) rfl rfl rfl (Nat.le_of_ble_eq_true rfl) (c_M_refused_0 (I := I) hS hR) (d2 := d - 1) (by omega) (Nat.le_of_eq (Nat.zero_add _)) (Nat.le_of_eq (Nat.zero_add _)) ?_
      obtain ⟨I2, hI2⟩ : ∃ x, x = u2 I 765 0 (I 765 0 + nI 1) := ⟨_, rfl⟩
      rw [← hI2]
      refine Run.ret (some (.int ((-32 : Int32)))) d_M_kept_24 ⟨_, rfl⟩ ?_
      exact RQ.bad 0 (by unfold o_kept; rw [hob]) (by decide) FrS.rf hI2
    · refine r_iload_n (pc2 := 15) d_M_kept_14 rfl rfl ?_
      refine q_if_ge (tgt := 25) (A := (-1 : Int)) (pc2 := 18) d_M_kept_15 rfl rfl (by decide) (fun c3 => ?_) (fun c3 => ?_)
      · exfalso; omega
      · refine r_aload_n (x := some 761) (pc2 := 19) d_M_kept_18 rfl rfl ?_
        refine r_bipush (v := (-32 : Int32)) (pc2 := 21) d_M_kept_19 rfl (by decide) ?_
        refine q_callv (M2 := mi_M_refused) (pc2 := 24) d_M_kept_21 rfl k_M_106 cm_M_refused cv_M_refused (sh_761 hS) (by decide) rfl rfl rfl (Nat.le_of_ble_eq_true rfl) (c_M_refused_0 (I := I) hS hR) (d2 := d - 1) (by omega) (Nat.le_of_eq (Nat.zero_add _)) (Nat.le_of_eq (Nat.zero_add _)) ?_
        obtain ⟨I4, hI4⟩ : ∃ x, x = u2 I 765 0 (I 765 0 + nI 1) := ⟨_, rfl⟩
        rw [← hI4]
        refine Run.ret (some (.int ((-32 : Int32)))) d_M_kept_24 ⟨_, rfl⟩ ?_
        exact RQ.bad 0 (by unfold o_kept; rw [hob]) (by decide) FrS.rf hI4
  | some p =>
    obtain ⟨hp, hp2, -⟩ := fst1_spec (show fst1 _ _ = some p from hob)
    refine r_aload_n (x := some 761) (pc2 := 7) d_M_kept_6 rfl rfl ?_
    refine r_iload_n (pc2 := 8) d_M_kept_7 rfl rfl ?_
    refine q_callv (M2 := mi_M_isFeature) (pc2 := 11) d_M_kept_8 rfl k_M_72 cm_M_isFeature cv_M_isFeature (sh_761 hS) (by decide) rfl rfl rfl (Nat.le_of_ble_eq_true rfl) (c_M_isFeature (I := I) (nF := nF) (f := f) hS hR (hFc) hF12 (by omega)) (d2 := d - 1) (by omega) (Nat.le_of_eq (Nat.zero_add _)) (Nat.le_of_eq (Nat.zero_add _)) ?_
    refine q_bif_eq (tgt := 18) (pc2 := 14) d_M_kept_11 rfl rfl (fun c5 => ?_) (fun c5 => ?_)
    · refine r_aload_n (x := some 761) (pc2 := 19) d_M_kept_18 rfl rfl ?_
      refine r_bipush (v := (-32 : Int32)) (pc2 := 21) d_M_kept_19 rfl (by decide) ?_
      refine q_callv (M2 := mi_M_refused) (pc2 := 24) d_M_kept_21 rfl k_M_106 cm_M_refused cv_M_refused (sh_761 hS) (by decide) rfl rfl rfl (Nat.le_of_ble_eq_true rfl) (c_M_refused_0 (I := I) hS hR) (d2 := d - 1) (by omega) (Nat.le_of_eq (Nat.zero_add _)) (Nat.le_of_eq (Nat.zero_add _)) ?_
      obtain ⟨I6, hI6⟩ : ∃ x, x = u2 I 765 0 (I 765 0 + nI 1) := ⟨_, rfl⟩
      rw [← hI6]
      refine Run.ret (some (.int ((-32 : Int32)))) d_M_kept_24 ⟨_, rfl⟩ ?_
      exact RQ.bad 0 (by unfold o_kept; rw [hob]; dsimp only; rw [if_neg (by omega)]) (by decide) FrS.rf hI6
    · refine r_iload_n (pc2 := 15) d_M_kept_14 rfl rfl ?_
      refine q_if_ge (tgt := 25) (A := ((p : Nat) : Int)) (pc2 := 18) d_M_kept_15 rfl rfl (nI_toInt (by omega)) (fun c7 => ?_) (fun c7 => ?_)
      · obtain ⟨F, hF, rfl, eF⟩ := nat_of c5
        refine r_aload_n (x := some 761) (pc2 := 26) d_M_kept_25 rfl rfl ?_
        refine r_iload_n (pc2 := 27) d_M_kept_26 rfl rfl ?_
        refine r_bipush (v := nI 36) (pc2 := 29) d_M_kept_27 rfl (by decide) ?_
        refine r_iload_n (pc2 := 30) d_M_kept_29 rfl rfl ?_
        refine q_iaddN (pc2 := 31) d_M_kept_30 rfl ?_
        refine q_callv (M2 := mi_M_of) (pc2 := 34) d_M_kept_31 rfl k_M_76 cm_M_of cv_M_of (sh_761 hS) (by decide) rfl rfl rfl (Nat.le_of_ble_eq_true rfl) (c_M_of (I := I) (F := F) (W := 36 + p) hS hR (by omega)) (d2 := d - 1) (by omega) (Nat.le_of_eq (Nat.zero_add _)) (Nat.le_of_eq (Nat.zero_add _)) ?_
        refine q_if_le (tgt := 49) (A := (I 762 (174 + 84 * F + (36 + p))).toInt) (pc2 := 37) d_M_kept_34 rfl rfl (rfl) (fun c8 => ?_) (fun c8 => ?_)
        · refine r_iconst (v := (-1 : Int32)) (pc2 := 50) d_M_kept_49 rfl (by decide) ?_
          refine Run.ret (some (.int ((-1 : Int32)))) d_M_kept_50 ⟨_, rfl⟩ ?_
          exact RQ.val (by unfold o_kept; rw [hob]; dsimp only; rw [if_pos (by omega), eF, Int.toNat_natCast, if_neg (by omega)]) FrS.rf
        · refine r_aload_n (x := some 761) (pc2 := 38) d_M_kept_37 rfl rfl ?_
          refine r_iload_n (pc2 := 39) d_M_kept_38 rfl rfl ?_
          refine r_bipush (v := nI 36) (pc2 := 41) d_M_kept_39 rfl (by decide) ?_
          refine r_iload_n (pc2 := 42) d_M_kept_41 rfl rfl ?_
          refine q_iaddN (pc2 := 43) d_M_kept_42 rfl ?_
          refine q_callv (M2 := mi_M_of) (pc2 := 46) d_M_kept_43 rfl k_M_76 cm_M_of cv_M_of (sh_761 hS) (by decide) rfl rfl rfl (Nat.le_of_ble_eq_true rfl) (c_M_of (I := I) (F := F) (W := 36 + p) hS hR (by omega)) (d2 := d - 1) (by omega) (Nat.le_of_eq (Nat.zero_add _)) (Nat.le_of_eq (Nat.zero_add _)) ?_
          refine r_goto (tgt := 50) d_M_kept_46 rfl ?_
          refine Run.ret (some (.int (I 762 (174 + 84 * F + (36 + p))))) d_M_kept_50 ⟨_, rfl⟩ ?_
          exact RQ.val (by unfold o_kept; rw [hob]; dsimp only; rw [if_pos (by omega), eF, Int.toNat_natCast, if_pos (by omega)]) FrS.rf
      · refine r_aload_n (x := some 761) (pc2 := 19) d_M_kept_18 rfl rfl ?_
        refine r_bipush (v := (-32 : Int32)) (pc2 := 21) d_M_kept_19 rfl (by decide) ?_
        refine q_callv (M2 := mi_M_refused) (pc2 := 24) d_M_kept_21 rfl k_M_106 cm_M_refused cv_M_refused (sh_761 hS) (by decide) rfl rfl rfl (Nat.le_of_ble_eq_true rfl) (c_M_refused_0 (I := I) hS hR) (d2 := d - 1) (by omega) (Nat.le_of_eq (Nat.zero_add _)) (Nat.le_of_eq (Nat.zero_add _)) ?_
        obtain ⟨I9, hI9⟩ : ∃ x, x = u2 I 765 0 (I 765 0 + nI 1) := ⟨_, rfl⟩
        rw [← hI9]
        refine Run.ret (some (.int ((-32 : Int32)))) d_M_kept_24 ⟨_, rfl⟩ ?_
        exact RQ.bad 0 (by unfold o_kept; rw [hob]; dsimp only; rw [if_neg (by omega)]) (by decide) FrS.rf hI9
