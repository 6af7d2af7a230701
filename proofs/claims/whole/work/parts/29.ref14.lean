/-! THE REFERENCE: ask, part -/
/-- the row g behind an ASK that is answered -/
def g_ask (a : Int32 × Int32 × Int32) (G : Nat → Int32) (F p : Nat) : Nat → Int32 :=
  if (G (174 + 84 * F + 2)).toInt = 1 ∧ a.2.1.toInt = 6 ∧ 0 < a.1.toInt ∧ ¬ 1000 ≤ (G (174 + 84 * F + 60 + 4 * a.2.2.toInt.toNat + 1)).toInt then
    u1 (u1 (u1 G (174 + 84 * F + (10 + a.1.toInt.toNat)) (G (174 + 84 * F + (10 + a.1.toInt.toNat)) + nI 1)) 4 (G 4 + nI 1)) (174 + 84 * F + (36 + p)) a.1
  else u1 (u1 G (174 + 84 * F + (10 + a.1.toInt.toNat)) (G (174 + 84 * F + (10 + a.1.toInt.toNat)) + nI 1)) 4 (G 4 + nI 1)
def o_ask (A : Nat → Nat → Int32 × Int32 × Int32) (G : Nat → Int32) (nP nF : Nat) (f key : Int32) : Out := match pB G nP key with
  | none => .inr 0
  | some p => if 0 ≤ f.toInt ∧ f.toInt < (nF : Int) then .inl (A p f.toInt.toNat).1 else .inr 0
def g_asked (A : Nat → Nat → Int32 × Int32 × Int32) (G : Nat → Int32) (nP nF : Nat) (f key : Int32) : Nat → Int32 := match pB G nP key with
  | none => G
  | some p => if 0 ≤ f.toInt ∧ f.toInt < (nF : Int) then g_ask (A p f.toInt.toNat) G f.toInt.toNat p else G
def o_part (G : Nat → Int32) (nF : Nat) (f s k q : Int32) : Out := if okPart G nF f s k q then (if 1000 ≤ (G (174 + 84 * f.toInt.toNat + 60 + 4 * s.toInt.toNat + 1)).toInt then .inr 3 else .inl (G (174 + 84 * f.toInt.toNat + 60 + 4 * s.toInt.toNat + k.toInt.toNat))) else .inr 0
def g_part (G : Nat → Int32) (nF : Nat) (f s k q : Int32) : Nat → Int32 := if okPart G nF f s k q then (if 1000 ≤ (G (174 + 84 * f.toInt.toNat + 60 + 4 * s.toInt.toNat + 1)).toInt then G else u1 G (174 + 84 * f.toInt.toNat + 60 + 4 * s.toInt.toNat + k.toInt.toNat) q) else G
theorem c_M_askTruly {d : Nat} {I : Nat → Nat → Int32} {R : Nat → Nat → Option Nat} {L : Nat → Nat → Int64} {sh : Nat → Nat × Nat} {N : Nat} (hS : ShOK sh) (hR : RfOK R) {kA fA cA gA nk nt : Nat} (hT : TRf R sh kA fA cA gA nk) (hTn : TNe kA fA cA gA) (hV : TV (I kA) (I fA) (I cA) nt) (hnt : nt ≤ nk) (hnk : nk ≤ 1000000) {nP nF : Nat} (hW : WFA (I 762) nP nF nt) {rk : Nat → Nat} (hrk : RK (I 762) nF rk) {p : Nat} (hp : p < nP) {F : Nat} (hF : F < nF) (hd : nt + 35 ≤ d) : Mt mi_M_askTruly d 0 0 [.ref 761, .int (nI F), .int (nI p)] (I, R, L, sh, N) (fun r h' => ∃ K, h' = (K, R, L, sh, N) ∧ r = some (.int (PA I kA fA cA gA p F).1) ∧ FrS (setR I 762 (g_ask (PA I kA fA cA gA p F) (I 762) F p)) K) := by
  obtain ⟨hn1, hn2, hn3, hn4⟩ := id hTn
  obtain ⟨hPc, hP24, hFc, hF12, hWF, hWP⟩ := id hW
  obtain ⟨w0, w1, w2, w3, w4, w5, w6, w7, w8, w9, wN, wR, wK, wO⟩ := hWF F hF
  obtain ⟨hv3, hr7, hwhy⟩ := PA_rng (kA := kA) (fA := fA) (cA := cA) (gA := gA) hW hrk hp hF
  obtain ⟨v, ev, ev2⟩ : ∃ v : Nat, (PA I kA fA cA gA p F).1 = nI v ∧ (PA I kA fA cA gA p F).1.toInt = (v : Int) := ⟨(PA I kA fA cA gA p F).1.toInt.toNat, eq_nI (by omega), by omega⟩
  refine Mt.of pn_M (Nat.le_of_ble_eq_true rfl) ?_
  show Run mi_M_askTruly d 0 0 0 [(0, .ref 761), (1, .int (nI F)), (2, .int (nI p))] [] (I, R, L, sh, N) _
  refine r_aload_n (x := some 761) (pc2 := 1) d_M_askTruly_0 rfl rfl ?_
  refine r_iload_n (pc2 := 2) d_M_askTruly_1 rfl rfl ?_
  refine r_iload_n (pc2 := 3) d_M_askTruly_2 rfl rfl ?_
  refine r_callv (M2 := mi_M_fresh) (pc2 := 6) d_M_askTruly_3 rfl k_M_201 cm_M_fresh cv_M_fresh (sh_761 hS) (by decide) rfl rfl rfl (Nat.le_of_ble_eq_true rfl) (c_M_freshJ hS hR hT hTn hV hnt hnk hW hrk (p := p) (by omega) (F := F) (by omega) FrS.rf (d := d - 1) (by omega)) (d2 := d - 1) (by omega) (Nat.le_of_eq (Nat.zero_add _)) (Nat.le_of_eq (Nat.zero_add _)) (fun r2 h2 hq2 => ?_)
  obtain ⟨J1, rfl, rfl, hJ1, hq2a, hq2b, hq2c⟩ := hq2
  change Run _ _ _ _ _ _ [.int ((PA I kA fA cA gA p F).1)] _ _
  have hGJ1 : J1 762 = I 762 := hJ1.row (by decide) (by decide) (by decide)
  have hk_J1 : J1 kA = I kA := hJ1.row (by omega) (by omega) (by omega)
  have hf_J1 : J1 fA = I fA := hJ1.row (by omega) (by omega) (by omega)
  have hc_J1 : J1 cA = I cA := hJ1.row (by omega) (by omega) (by omega)
  have hg_J1 : J1 gA = I gA := hJ1.row (by omega) (by omega) (by omega)
  refine q_top (y := nI v) ev ?_
  refine r_istore_n (pc2 := 7) d_M_askTruly_6 rfl rfl (Nat.le_of_ble_eq_true rfl) ?_
  refine r_aload_n (x := some 761) (pc2 := 8) d_M_askTruly_7 rfl rfl ?_
  refine r_iload_n (pc2 := 9) d_M_askTruly_8 rfl rfl ?_
  refine r_bipush (v := nI 10) (pc2 := 11) d_M_askTruly_9 rfl (by decide) ?_
  refine r_iload_n (pc2 := 12) d_M_askTruly_11 rfl rfl ?_
  refine q_iaddN (pc2 := 13) d_M_askTruly_12 rfl ?_
  refine r_aload_n (x := some 761) (pc2 := 14) d_M_askTruly_13 rfl rfl ?_
  refine r_iload_n (pc2 := 15) d_M_askTruly_14 rfl rfl ?_
  refine r_bipush (v := nI 10) (pc2 := 17) d_M_askTruly_15 rfl (by decide) ?_
  refine r_iload_n (pc2 := 18) d_M_askTruly_17 rfl rfl ?_
  refine q_iaddN (pc2 := 19) d_M_askTruly_18 rfl ?_
  refine q_callv (M2 := mi_M_of) (pc2 := 22) d_M_askTruly_19 rfl k_M_76 cm_M_of cv_M_of (sh_761 hS) (by decide) rfl rfl rfl (Nat.le_of_ble_eq_true rfl) (c_M_of (I := J1) (F := F) (W := 10 + v) hS hR (by omega)) (d2 := d - 1) (by omega) (Nat.le_of_eq (Nat.zero_add _)) (Nat.le_of_eq (Nat.zero_add _)) ?_
  refine q_top (y := I 762 (174 + 84 * F + (10 + v))) (congrFun hGJ1 _) ?_
  refine r_iconst (v := nI 1) (pc2 := 23) d_M_askTruly_22 rfl (by decide) ?_
  refine r_iadd (pc2 := 24) d_M_askTruly_23 rfl ?_
  refine q_callvV (M2 := mi_M_is) (pc2 := 27) d_M_askTruly_24 rfl k_M_157 cm_M_is cv_M_is (sh_761 hS) (by decide) rfl rfl rfl (Nat.le_of_ble_eq_true rfl) (c_M_is (I := J1) (F := F) (W := 10 + v) (v := (I 762 (174 + 84 * F + (10 + v))) + (nI 1)) hS hR (by omega)) (d2 := d - 1) (by omega) (Nat.le_of_eq (Nat.zero_add _)) (Nat.le_of_eq (Nat.zero_add _)) ?_
  obtain ⟨I2, hI2⟩ : ∃ x, x = u2 J1 762 (174 + 84 * F + (10 + v)) ((I 762 (174 + 84 * F + (10 + v))) + (nI 1)) := ⟨_, rfl⟩
  rw [← hI2]
  refine r_aload_n (x := some 761) (pc2 := 28) d_M_askTruly_27 rfl rfl ?_
  refine q_getR (x := some 762) (pc2 := 31) d_M_askTruly_28 rfl k_M_9 rfl (sh_761 hS) (rf_761_0 hR) ?_
  refine r_iconst (v := nI 4) (pc2 := 32) d_M_askTruly_31 rfl (by decide) ?_
  refine r_dup2 (pc2 := 33) d_M_askTruly_32 rfl rfl rfl ?_
  refine q_iaload (q := 4) (x := I2 762 4) (pc2 := 34) d_M_askTruly_33 rfl (sh_762 hS) (nI_toInt (by omega)) (by omega) rfl ?_
  refine r_iconst (v := nI 1) (pc2 := 35) d_M_askTruly_34 rfl (by decide) ?_
  refine r_iadd (pc2 := 36) d_M_askTruly_35 rfl ?_
  refine q_iastore (q := 4) (pc2 := 37) d_M_askTruly_36 rfl (sh_762 hS) (nI_toInt (by omega)) (by omega) (fun I3 hI3 => ?_)
  refine r_aload_n (x := some 761) (pc2 := 38) d_M_askTruly_37 rfl rfl ?_
  refine r_iload_n (pc2 := 39) d_M_askTruly_38 rfl rfl ?_
  refine r_iconst (v := nI 2) (pc2 := 40) d_M_askTruly_39 rfl (by decide) ?_
  refine q_callv (M2 := mi_M_of) (pc2 := 43) d_M_askTruly_40 rfl k_M_76 cm_M_of cv_M_of (sh_761 hS) (by decide) rfl rfl rfl (Nat.le_of_ble_eq_true rfl) (c_M_of (I := I3) (F := F) (W := 2) hS hR (by omega)) (d2 := d - 1) (by omega) (Nat.le_of_eq (Nat.zero_add _)) (Nat.le_of_eq (Nat.zero_add _)) ?_
  have hk2 : I3 762 (174 + 84 * F + 2) = I 762 (174 + 84 * F + 2) := (rd_nk hI3 (by omega)).trans ((rd_nk hI2 (by omega)).trans (congrFun hGJ1 _))
  refine q_top (y := I 762 (174 + 84 * F + 2)) hk2 ?_
  refine r_iconst (v := nI 1) (pc2 := 44) d_M_askTruly_43 rfl (by decide) ?_
  refine q_icmp_ne (tgt := 86) (A := (I 762 (174 + 84 * F + 2)).toInt) (B := (1 : Int)) (pc2 := 47) d_M_askTruly_44 rfl rfl (rfl) (nI_toInt (by omega)) (fun c4 => ?_) (fun c4 => ?_)
  · refine r_iload_n (pc2 := 87) d_M_askTruly_86 rfl rfl ?_
    refine Run.ret (some (.int (nI v))) d_M_askTruly_87 ⟨_, rfl⟩ ?_
    refine ⟨_, rfl, by rw [ev], ?_⟩
    have f1 := setR_put (hJ1.set) hI2
    have f2 := setR_put f1 hI3
    have e4 : I2 762 4 = I 762 4 := (rd_nk hI2 (by omega)).trans (congrFun hGJ1 _)
    rw [e4] at f2
    unfold g_ask
    rw [if_neg (by omega), ev2, Int.toNat_natCast]
    exact f2
  · refine r_aload_n (x := some 761) (pc2 := 48) d_M_askTruly_47 rfl rfl ?_
    refine q_getR (x := some 773) (pc2 := 51) d_M_askTruly_48 rfl k_M_43 rfl (sh_761 hS) (rf_761_18 hR) ?_
    refine r_iload_n (pc2 := 52) d_M_askTruly_51 rfl rfl ?_
    refine q_iaload (q := F) (x := (PA I kA fA cA gA p F).2.1) (pc2 := 53) d_M_askTruly_52 rfl (sh_773 hS) (nI_toInt (by omega)) (by omega) ((rd_ne hI3 (by decide)).trans ((rd_ne hI2 (by decide)).trans (hq2b))) ?_
    refine r_bipush (v := nI 6) (pc2 := 55) d_M_askTruly_53 rfl (by decide) ?_
    refine q_icmp_ne (tgt := 86) (A := ((PA I kA fA cA gA p F).2.1).toInt) (B := (6 : Int)) (pc2 := 58) d_M_askTruly_55 rfl rfl (rfl) (nI_toInt (by omega)) (fun c5 => ?_) (fun c5 => ?_)
    · refine r_iload_n (pc2 := 87) d_M_askTruly_86 rfl rfl ?_
      refine Run.ret (some (.int (nI v))) d_M_askTruly_87 ⟨_, rfl⟩ ?_
      refine ⟨_, rfl, by rw [ev], ?_⟩
      have f1 := setR_put (hJ1.set) hI2
      have f2 := setR_put f1 hI3
      have e4 : I2 762 4 = I 762 4 := (rd_nk hI2 (by omega)).trans (congrFun hGJ1 _)
      rw [e4] at f2
      unfold g_ask
      rw [if_neg (by omega), ev2, Int.toNat_natCast]
      exact f2
    · refine r_iload_n (pc2 := 59) d_M_askTruly_58 rfl rfl ?_
      refine q_if_le (tgt := 86) (A := ((v : Nat) : Int)) (pc2 := 62) d_M_askTruly_59 rfl rfl (nI_toInt (by omega)) (fun c6 => ?_) (fun c6 => ?_)
      · refine r_iload_n (pc2 := 87) d_M_askTruly_86 rfl rfl ?_
        refine Run.ret (some (.int (nI v))) d_M_askTruly_87 ⟨_, rfl⟩ ?_
        refine ⟨_, rfl, by rw [ev], ?_⟩
        have f1 := setR_put (hJ1.set) hI2
        have f2 := setR_put f1 hI3
        have e4 : I2 762 4 = I 762 4 := (rd_nk hI2 (by omega)).trans (congrFun hGJ1 _)
        rw [e4] at f2
        unfold g_ask
        rw [if_neg (by omega), ev2, Int.toNat_natCast]
        exact f2
      · obtain ⟨r, hr, er⟩ := hwhy c5
        have e22 : (PA I kA fA cA gA p F).2.2.toInt.toNat = r := by rw [er, nI_toInt (by omega), Int.toNat_natCast]
        have hfx : I3 762 (174 + 84 * F + 60 + 4 * r + 1) = I 762 (174 + 84 * F + 60 + 4 * r + 1) := (rd_nk hI3 (by omega)).trans ((rd_nk hI2 (by omega)).trans (congrFun hGJ1 _))
        refine r_aload_n (x := some 761) (pc2 := 63) d_M_askTruly_62 rfl rfl ?_
        refine r_iload_n (pc2 := 64) d_M_askTruly_63 rfl rfl ?_
        refine r_aload_n (x := some 761) (pc2 := 65) d_M_askTruly_64 rfl rfl ?_
        refine q_getR (x := some 774) (pc2 := 68) d_M_askTruly_65 rfl k_M_46 rfl (sh_761 hS) (rf_761_19 hR) ?_
        refine r_iload_n (pc2 := 69) d_M_askTruly_68 rfl rfl ?_
        refine q_iaload (q := F) (x := nI r) (pc2 := 70) d_M_askTruly_69 rfl (sh_774 hS) (nI_toInt (by omega)) (by omega) ((rd_ne hI3 (by decide)).trans ((rd_ne hI2 (by decide)).trans ((hq2c).trans er))) ?_
        refine q_callv (M2 := mi_M_isFixed) (pc2 := 73) d_M_askTruly_70 rfl k_M_188 cm_M_isFixed cv_M_isFixed (sh_761 hS) (by decide) rfl rfl rfl (Nat.le_of_ble_eq_true rfl) (c_M_isFixed (I := I3) (F := F) (r := r) hS hR (by omega) (by omega) (by omega)) (d2 := d - 1) (by omega) (Nat.le_of_eq (Nat.zero_add _)) (Nat.le_of_eq (Nat.zero_add _)) ?_
        refine q_bif_ne (tgt := 86) (pc2 := 76) d_M_askTruly_73 rfl rfl (fun c7 => ?_) (fun c7 => ?_)
        · refine r_iload_n (pc2 := 87) d_M_askTruly_86 rfl rfl ?_
          refine Run.ret (some (.int (nI v))) d_M_askTruly_87 ⟨_, rfl⟩ ?_
          refine ⟨_, rfl, by rw [ev], ?_⟩
          have f1 := setR_put (hJ1.set) hI2
          have f2 := setR_put f1 hI3
          have e4 : I2 762 4 = I 762 4 := (rd_nk hI2 (by omega)).trans (congrFun hGJ1 _)
          rw [e4] at f2
          unfold g_ask
          rw [if_neg (fun q => q.2.2.2 (by rw [e22, ← hfx]; exact c7)), ev2, Int.toNat_natCast]
          exact f2
        · refine r_aload_n (x := some 761) (pc2 := 77) d_M_askTruly_76 rfl rfl ?_
          refine r_iload_n (pc2 := 78) d_M_askTruly_77 rfl rfl ?_
          refine r_bipush (v := nI 36) (pc2 := 80) d_M_askTruly_78 rfl (by decide) ?_
          refine r_iload_n (pc2 := 81) d_M_askTruly_80 rfl rfl ?_
          refine q_iaddN (pc2 := 82) d_M_askTruly_81 rfl ?_
          refine r_iload_n (pc2 := 83) d_M_askTruly_82 rfl rfl ?_
          refine q_callvV (M2 := mi_M_is) (pc2 := 86) d_M_askTruly_83 rfl k_M_157 cm_M_is cv_M_is (sh_761 hS) (by decide) rfl rfl rfl (Nat.le_of_ble_eq_true rfl) (c_M_is (I := I3) (F := F) (W := 36 + p) (v := nI v) hS hR (by omega)) (d2 := d - 1) (by omega) (Nat.le_of_eq (Nat.zero_add _)) (Nat.le_of_eq (Nat.zero_add _)) ?_
          obtain ⟨I8, hI8⟩ : ∃ x, x = u2 I3 762 (174 + 84 * F + (36 + p)) (nI v) := ⟨_, rfl⟩
          rw [← hI8]
          refine r_iload_n (pc2 := 87) d_M_askTruly_86 rfl rfl ?_
          refine Run.ret (some (.int (nI v))) d_M_askTruly_87 ⟨_, rfl⟩ ?_
          refine ⟨_, rfl, by rw [ev], ?_⟩
          have f1 := setR_put (hJ1.set) hI2
          have f2 := setR_put f1 hI3
          have e4 : I2 762 4 = I 762 4 := (rd_nk hI2 (by omega)).trans (congrFun hGJ1 _)
          rw [e4] at f2
          unfold g_ask
          have f3 := setR_put f2 hI8
          rw [if_pos ⟨by omega, by omega, by omega, by rw [e22, ← hfx]; exact c7⟩, ev2, ev, Int.toNat_natCast]
          exact f3
theorem c_M_ask {d : Nat} {I : Nat → Nat → Int32} {R : Nat → Nat → Option Nat} {L : Nat → Nat → Int64} {sh : Nat → Nat × Nat} {N : Nat} (hS : ShOK sh) (hR : RfOK R) {kA fA cA gA nk nt : Nat} (hT : TRf R sh kA fA cA gA nk) (hTn : TNe kA fA cA gA) (hV : TV (I kA) (I fA) (I cA) nt) (hnt : nt ≤ nk) (hnk : nk ≤ 1000000) {nP nF : Nat} (hW : WFA (I 762) nP nF nt) {rk : Nat → Nat} (hrk : RK (I 762) nF rk) {f : Int32} {key : Int32} (hd : nt + 40 ≤ d) : Mt mi_M_ask d 0 0 [.ref 761, .int f, .int key] (I, R, L, sh, N) (RQW I R L sh N (o_ask (PA I kA fA cA gA) (I 762) nP nF f key) (g_asked (PA I kA fA cA gA) (I 762) nP nF f key)) := by
  obtain ⟨hPc, hP24, hFc, hF12, hWF, hWP⟩ := id hW
  refine Mt.of pn_M (Nat.le_of_ble_eq_true rfl) ?_
  show Run mi_M_ask d 0 0 0 [(0, .ref 761), (1, .int f), (2, .int key)] [] (I, R, L, sh, N) _
  refine r_aload_n (x := some 761) (pc2 := 1) d_M_ask_0 rfl rfl ?_
  refine r_iload_n (pc2 := 2) d_M_ask_1 rfl rfl ?_
  refine q_callv (M2 := mi_M_personBy) (pc2 := 5) d_M_ask_2 rfl k_M_204 cm_M_personBy cv_M_personBy (sh_761 hS) (by decide) rfl rfl rfl (Nat.le_of_ble_eq_true rfl) (c_M_personBy (I := I) (nP := nP) (key := key) hS hR (hPc) hP24 (by omega)) (d2 := d - 1) (by omega) (Nat.le_of_eq (Nat.zero_add _)) (Nat.le_of_eq (Nat.zero_add _)) ?_
  refine r_istore_n (pc2 := 6) d_M_ask_5 rfl rfl (Nat.le_of_ble_eq_true rfl) ?_
  cases hob : pB (I 762) nP key with
  | none =>
    refine r_aload_n (x := some 761) (pc2 := 7) d_M_ask_6 rfl rfl ?_
    refine r_iload_n (pc2 := 8) d_M_ask_7 rfl rfl ?_
    refine q_callv (M2 := mi_M_isFeature) (pc2 := 11) d_M_ask_8 rfl k_M_72 cm_M_isFeature cv_M_isFeature (sh_761 hS) (by decide) rfl rfl rfl (Nat.le_of_ble_eq_true rfl) (c_M_isFeature (I := I) (nF := nF) (f := f) hS hR (hFc) hF12 (by omega)) (d2 := d - 1) (by omega) (Nat.le_of_eq (Nat.zero_add _)) (Nat.le_of_eq (Nat.zero_add _)) ?_
    refine q_bif_eq (tgt := 27) (pc2 := 14) d_M_ask_11 rfl rfl (fun c1 => ?_) (fun c1 => ?_)
    · refine r_aload_n (x := some 761) (pc2 := 28) d_M_ask_27 rfl rfl ?_
      refine r_bipush (v := (-32 : Int32)) (pc2 := 30) d_M_ask_28 rfl (by decide) ?_
      refine q_callv (M2 := mi_M_refused) (pc2 := 33) d_M_ask_30 rfl k_M_106 cm_M_refused cv_M_refused (sh_761 hS) (by decide) rfl rfl rfl (Nat.le_of_ble_eq_true rfl) (c_M_refused_0 (I := I) hS hR) (d2 := d - 1) (by omega) (Nat.le_of_eq (Nat.zero_add _)) (Nat.le_of_eq (Nat.zero_add _)) ?_
      obtain ⟨I2, hI2⟩ : ∃ x, x = u2 I 765 0 (I 765 0 + nI 1) := ⟨_, rfl⟩
      rw [← hI2]
      refine Run.ret (some (.int ((-32 : Int32)))) d_M_ask_33 ⟨_, rfl⟩ ?_
      exact RQW.bad 0 (by unfold o_ask; rw [hob]) (by unfold g_asked; rw [hob]) (by decide) FrS.rf hI2
    · refine r_iload_n (pc2 := 15) d_M_ask_14 rfl rfl ?_
      refine q_if_lt (tgt := 27) (A := (-1 : Int)) (pc2 := 18) d_M_ask_15 rfl rfl (by decide) (fun c3 => ?_) (fun c3 => ?_)
      · refine r_aload_n (x := some 761) (pc2 := 28) d_M_ask_27 rfl rfl ?_
        refine r_bipush (v := (-32 : Int32)) (pc2 := 30) d_M_ask_28 rfl (by decide) ?_
        refine q_callv (M2 := mi_M_refused) (pc2 := 33) d_M_ask_30 rfl k_M_106 cm_M_refused cv_M_refused (sh_761 hS) (by decide) rfl rfl rfl (Nat.le_of_ble_eq_true rfl) (c_M_refused_0 (I := I) hS hR) (d2 := d - 1) (by omega) (Nat.le_of_eq (Nat.zero_add _)) (Nat.le_of_eq (Nat.zero_add _)) ?_
        obtain ⟨I4, hI4⟩ : ∃ x, x = u2 I 765 0 (I 765 0 + nI 1) := ⟨_, rfl⟩
        rw [← hI4]
        refine Run.ret (some (.int ((-32 : Int32)))) d_M_ask_33 ⟨_, rfl⟩ ?_
        exact RQW.bad 0 (by unfold o_ask; rw [hob]) (by unfold g_asked; rw [hob]) (by decide) FrS.rf hI4
      · exfalso; omega
  | some p =>
    obtain ⟨hp, hp2, -⟩ := fst1_spec (show fst1 _ _ = some p from hob)
    refine r_aload_n (x := some 761) (pc2 := 7) d_M_ask_6 rfl rfl ?_
    refine r_iload_n (pc2 := 8) d_M_ask_7 rfl rfl ?_
    refine q_callv (M2 := mi_M_isFeature) (pc2 := 11) d_M_ask_8 rfl k_M_72 cm_M_isFeature cv_M_isFeature (sh_761 hS) (by decide) rfl rfl rfl (Nat.le_of_ble_eq_true rfl) (c_M_isFeature (I := I) (nF := nF) (f := f) hS hR (hFc) hF12 (by omega)) (d2 := d - 1) (by omega) (Nat.le_of_eq (Nat.zero_add _)) (Nat.le_of_eq (Nat.zero_add _)) ?_
    refine q_bif_eq (tgt := 27) (pc2 := 14) d_M_ask_11 rfl rfl (fun c5 => ?_) (fun c5 => ?_)
    · refine r_aload_n (x := some 761) (pc2 := 28) d_M_ask_27 rfl rfl ?_
      refine r_bipush (v := (-32 : Int32)) (pc2 := 30) d_M_ask_28 rfl (by decide) ?_
      refine q_callv (M2 := mi_M_refused) (pc2 := 33) d_M_ask_30 rfl k_M_106 cm_M_refused cv_M_refused (sh_761 hS) (by decide) rfl rfl rfl (Nat.le_of_ble_eq_true rfl) (c_M_refused_0 (I := I) hS hR) (d2 := d - 1) (by omega) (Nat.le_of_eq (Nat.zero_add _)) (Nat.le_of_eq (Nat.zero_add _)) ?_
      obtain ⟨I6, hI6⟩ : ∃ x, x = u2 I 765 0 (I 765 0 + nI 1) := ⟨_, rfl⟩
      rw [← hI6]
      refine Run.ret (some (.int ((-32 : Int32)))) d_M_ask_33 ⟨_, rfl⟩ ?_
      exact RQW.bad 0 (by unfold o_ask; rw [hob]; dsimp only; rw [if_neg (by omega)]) (by unfold g_asked; rw [hob]; dsimp only; rw [if_neg (by omega)]) (by decide) FrS.rf hI6
    · refine r_iload_n (pc2 := 15) d_M_ask_14 rfl rfl ?_
      refine q_if_lt (tgt := 27) (A := ((p : Nat) : Int)) (pc2 := 18) d_M_ask_15 rfl rfl (nI_toInt (by omega)) (fun c7 => ?_) (fun c7 => ?_)
      · refine r_aload_n (x := some 761) (pc2 := 28) d_M_ask_27 rfl rfl ?_
        refine r_bipush (v := (-32 : Int32)) (pc2 := 30) d_M_ask_28 rfl (by decide) ?_
        refine q_callv (M2 := mi_M_refused) (pc2 := 33) d_M_ask_30 rfl k_M_106 cm_M_refused cv_M_refused (sh_761 hS) (by decide) rfl rfl rfl (Nat.le_of_ble_eq_true rfl) (c_M_refused_0 (I := I) hS hR) (d2 := d - 1) (by omega) (Nat.le_of_eq (Nat.zero_add _)) (Nat.le_of_eq (Nat.zero_add _)) ?_
        obtain ⟨I8, hI8⟩ : ∃ x, x = u2 I 765 0 (I 765 0 + nI 1) := ⟨_, rfl⟩
        rw [← hI8]
        refine Run.ret (some (.int ((-32 : Int32)))) d_M_ask_33 ⟨_, rfl⟩ ?_
        exact RQW.bad 0 (by unfold o_ask; rw [hob]; dsimp only; rw [if_neg (by omega)]) (by unfold g_asked; rw [hob]; dsimp only; rw [if_neg (by omega)]) (by decide) FrS.rf hI8
      · obtain ⟨F, hF, rfl, eF⟩ := nat_of c5
        refine r_aload_n (x := some 761) (pc2 := 19) d_M_ask_18 rfl rfl ?_
        refine r_iload_n (pc2 := 20) d_M_ask_19 rfl rfl ?_
        refine r_iload_n (pc2 := 21) d_M_ask_20 rfl rfl ?_
        refine r_callv (M2 := mi_M_askTruly) (pc2 := 24) d_M_ask_21 rfl k_M_207 cm_M_askTruly cv_M_askTruly (sh_761 hS) (by decide) rfl rfl rfl (Nat.le_of_ble_eq_true rfl) (c_M_askTruly hS hR hT hTn hV hnt hnk hW hrk (p := p) (by omega) (F := F) (by omega) (d := d - 1) (by omega)) (d2 := d - 1) (by omega) (Nat.le_of_eq (Nat.zero_add _)) (Nat.le_of_eq (Nat.zero_add _)) (fun r2 h2 hq2 => ?_)
        obtain ⟨K, rfl, rfl, hK⟩ := hq2
        change Run _ _ _ _ _ _ [.int ((PA I kA fA cA gA p F).1)] _ _
        refine r_goto (tgt := 33) d_M_ask_24 rfl ?_
        refine Run.ret (some (.int ((PA I kA fA cA gA p F).1))) d_M_ask_33 ⟨_, rfl⟩ ?_
        exact RQW.val (by unfold o_ask; rw [hob]; dsimp only; rw [if_pos (by omega), eF, Int.toNat_natCast]) (by unfold g_asked; rw [hob]; dsimp only; rw [if_pos (by omega), eF, Int.toNat_natCast]; exact hK)
theorem c_M_part {d : Nat} {I : Nat → Nat → Int32} {R : Nat → Nat → Option Nat} {L : Nat → Nat → Int64} {sh : Nat → Nat × Nat} {N : Nat} (hS : ShOK sh) (hR : RfOK R) {kA fA cA gA nk nt : Nat} (hT : TRf R sh kA fA cA gA nk) (hTn : TNe kA fA cA gA) (hV : TV (I kA) (I fA) (I cA) nt) (hnt : nt ≤ nk) (hnk : nk ≤ 1000000) {nP nF : Nat} (hW : WFA (I 762) nP nF nt) {rk : Nat → Nat} (hrk : RK (I 762) nF rk) {f : Int32} {s : Int32} {k : Int32} {q : Int32} (hd : nt + 40 ≤ d) : Mt mi_M_part d 0 0 [.ref 761, .int f, .int s, .int k, .int q] (I, R, L, sh, N) (RQW I R L sh N (o_part (I 762) nF f s k q) (g_part (I 762) nF f s k q)) := by
  obtain ⟨hPc, hP24, hFc, hF12, hWF, hWP⟩ := id hW
  refine Mt.of pn_M (Nat.le_of_ble_eq_true rfl) ?_
  show Run mi_M_part d 0 0 0 [(0, .ref 761), (1, .int f), (2, .int s), (3, .int k), (4, .int q)] [] (I, R, L, sh, N) _
  refine r_aload_n (x := some 761) (pc2 := 1) d_M_part_0 rfl rfl ?_
  refine r_iload_n (pc2 := 2) d_M_part_1 rfl rfl ?_
  refine r_iload_n (pc2 := 3) d_M_part_2 rfl rfl ?_
  refine r_iload_n (pc2 := 4) d_M_part_3 rfl rfl ?_
  refine r_iload (pc2 := 6) d_M_part_4 rfl rfl ?_
  refine q_callv (M2 := mi_M_isPart) (pc2 := 9) d_M_part_6 rfl k_M_228 cm_M_isPart cv_M_isPart (sh_761 hS) (by decide) rfl rfl rfl (Nat.le_of_ble_eq_true rfl) (c_M_isPart (f := f) (s := s) (k := k) (q := q) hS hR hT hTn hV hnt hnk hW (by omega)) (d2 := d - 1) (by omega) (Nat.le_of_eq (Nat.zero_add _)) (Nat.le_of_eq (Nat.zero_add _)) ?_
  refine q_bif_ne (tgt := 19) (pc2 := 12) d_M_part_9 rfl rfl (fun c1 => ?_) (fun c1 => ?_)
  · have hok := c1
    obtain ⟨q1, q2, q3⟩ := hok
    obtain ⟨F, hF, hFe, eF⟩ := nat_of q1.1
    subst hFe
    obtain ⟨r, hre, er⟩ : ∃ r : Nat, s = nI r ∧ (s).toInt = (r : Int) := ⟨(s).toInt.toNat, eq_nI (by have := q1.2; omega), by have := q1.2; omega⟩
    subst hre
    rw [eF, Int.toNat_natCast] at q1
    obtain ⟨w0, w1, w2, w3, w4, w5, w6, w7, w8, w9, wN, wR, wK, wO⟩ := hWF F hF
    obtain ⟨⟨r1, r2⟩, r3, r4, r5⟩ := wR r (by omega)
    rw [eF, Int.toNat_natCast] at q2
    obtain ⟨k2, hk2, ek⟩ : ∃ r : Nat, k = nI r ∧ k.toInt = (r : Int) := ⟨k.toInt.toNat, eq_nI (by omega), by omega⟩
    subst hk2
    refine r_aload_n (x := some 761) (pc2 := 20) d_M_part_19 rfl rfl ?_
    refine r_iload_n (pc2 := 21) d_M_part_20 rfl rfl ?_
    refine r_iload_n (pc2 := 22) d_M_part_21 rfl rfl ?_
    refine q_callv (M2 := mi_M_isFixed) (pc2 := 25) d_M_part_22 rfl k_M_188 cm_M_isFixed cv_M_isFixed (sh_761 hS) (by decide) rfl rfl rfl (Nat.le_of_ble_eq_true rfl) (c_M_isFixed (I := I) (F := F) (r := r) hS hR (by omega) (by omega) (by omega)) (d2 := d - 1) (by omega) (Nat.le_of_eq (Nat.zero_add _)) (Nat.le_of_eq (Nat.zero_add _)) ?_
    refine q_bif_eq (tgt := 35) (pc2 := 28) d_M_part_25 rfl rfl (fun c2 => ?_) (fun c2 => ?_)
    · refine r_iload_n (pc2 := 36) d_M_part_35 rfl rfl ?_
      refine r_iload_n (pc2 := 37) d_M_part_36 rfl rfl ?_
      refine r_iload_n (pc2 := 38) d_M_part_37 rfl rfl ?_
      refine q_calls (M2 := mi_M_ruleAt) (pc2 := 41) d_M_part_38 rfl k_M_80 cm_M_ruleAt cs_M_ruleAt rfl rfl (Nat.le_of_ble_eq_true rfl) (c_M_ruleAt (F := F) (r := r) (k := k2)) (d2 := d - 1) (by omega) (Nat.le_of_eq (Nat.zero_add _)) (Nat.le_of_eq (Nat.zero_add _)) ?_
      refine r_istore (pc2 := 43) d_M_part_41 rfl (Nat.le_of_ble_eq_true rfl) ?_
      refine r_aload_n (x := some 761) (pc2 := 44) d_M_part_43 rfl rfl ?_
      refine q_getR (x := some 762) (pc2 := 47) d_M_part_44 rfl k_M_9 rfl (sh_761 hS) (rf_761_0 hR) ?_
      refine r_iload (pc2 := 49) d_M_part_47 rfl rfl ?_
      refine q_iaload (q := 174 + 84 * F + 60 + 4 * r + k2) (x := I 762 (174 + 84 * F + 60 + 4 * r + k2)) (pc2 := 50) d_M_part_49 rfl (sh_762 hS) (nI_toInt (by omega)) (by omega) rfl ?_
      refine r_istore (pc2 := 52) d_M_part_50 rfl (Nat.le_of_ble_eq_true rfl) ?_
      refine r_aload_n (x := some 761) (pc2 := 53) d_M_part_52 rfl rfl ?_
      refine q_getR (x := some 762) (pc2 := 56) d_M_part_53 rfl k_M_9 rfl (sh_761 hS) (rf_761_0 hR) ?_
      refine r_iload (pc2 := 58) d_M_part_56 rfl rfl ?_
      refine r_iload (pc2 := 60) d_M_part_58 rfl rfl ?_
      refine q_iastore (q := 174 + 84 * F + 60 + 4 * r + k2) (pc2 := 61) d_M_part_60 rfl (sh_762 hS) (nI_toInt (by omega)) (by omega) (fun I3 hI3 => ?_)
      refine r_iload (pc2 := 63) d_M_part_61 rfl rfl ?_
      refine Run.ret (some (.int (I 762 (174 + 84 * F + 60 + 4 * r + k2)))) d_M_part_63 ⟨_, rfl⟩ ?_
      exact RQW.val (by unfold o_part; rw [if_pos c1, eF, er, ek, Int.toNat_natCast, Int.toNat_natCast, Int.toNat_natCast, if_neg c2]) (by unfold g_part; rw [if_pos c1, eF, er, ek, Int.toNat_natCast, Int.toNat_natCast, Int.toNat_natCast, if_neg c2]; exact setR_put FrS.rf.set hI3)
    · refine r_aload_n (x := some 761) (pc2 := 29) d_M_part_28 rfl rfl ?_
      refine r_bipush (v := (-35 : Int32)) (pc2 := 31) d_M_part_29 rfl (by decide) ?_
      refine q_callv (M2 := mi_M_refused) (pc2 := 34) d_M_part_31 rfl k_M_106 cm_M_refused cv_M_refused (sh_761 hS) (by decide) rfl rfl rfl (Nat.le_of_ble_eq_true rfl) (c_M_refused_3 (I := I) hS hR) (d2 := d - 1) (by omega) (Nat.le_of_eq (Nat.zero_add _)) (Nat.le_of_eq (Nat.zero_add _)) ?_
      obtain ⟨I4, hI4⟩ : ∃ x, x = u2 I 765 3 (I 765 3 + nI 1) := ⟨_, rfl⟩
      rw [← hI4]
      refine Run.ret (some (.int ((-35 : Int32)))) d_M_part_34 ⟨_, rfl⟩ ?_
      exact RQW.bad 3 (by unfold o_part; rw [if_pos c1, eF, er, Int.toNat_natCast, Int.toNat_natCast, if_pos c2]) (by unfold g_part; rw [if_pos c1, eF, er, Int.toNat_natCast, Int.toNat_natCast, if_pos c2]) (by decide) FrS.rf hI4
  · refine r_aload_n (x := some 761) (pc2 := 13) d_M_part_12 rfl rfl ?_
    refine r_bipush (v := (-32 : Int32)) (pc2 := 15) d_M_part_13 rfl (by decide) ?_
    refine q_callv (M2 := mi_M_refused) (pc2 := 18) d_M_part_15 rfl k_M_106 cm_M_refused cv_M_refused (sh_761 hS) (by decide) rfl rfl rfl (Nat.le_of_ble_eq_true rfl) (c_M_refused_0 (I := I) hS hR) (d2 := d - 1) (by omega) (Nat.le_of_eq (Nat.zero_add _)) (Nat.le_of_eq (Nat.zero_add _)) ?_
    obtain ⟨I5, hI5⟩ : ∃ x, x = u2 I 765 0 (I 765 0 + nI 1) := ⟨_, rfl⟩
    rw [← hI5]
    refine Run.ret (some (.int ((-32 : Int32)))) d_M_part_18 ⟨_, rfl⟩ ?_
    exact RQW.bad 0 (by unfold o_part; rw [if_neg c1]) (by unfold g_part; rw [if_neg c1]) (by decide) FrS.rf hI5
