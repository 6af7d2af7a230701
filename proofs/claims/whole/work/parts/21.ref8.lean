/-! THE REFERENCE: answer, fresh -/
theorem AQ.mk {A : Nat → Int32 × Int32 × Int32} {nF F : Nat} {I J K K1 K2 K3 K4 : Nat → Nat → Int32} {R : Nat → Nat → Option Nat} {L : Nat → Nat → Int64} {sh : Nat → Nat × Nat} {N : Nat} (hF : F < nF) (hn : nF ≤ 12) (hf : FrA I K) (hm : MEM A nF K) (h1 : K1 = u2 K 772 F (A F).1) (h2 : K2 = u2 K1 773 F (A F).2.1) (h3 : K3 = u2 K2 774 F (A F).2.2) (h4 : K4 = u2 K3 761 20 (K 761 20 ||| (nI 1 <<< (nI F &&& 31)))) (hb : ∀ b, b < 32 → bt (J 761 20) b = true → bt (K 761 20) b = true) : AQ A nF F I J R L sh N (some (.int (A F).1)) (K4, R, L, sh, N) := by
  have e20 := rd_eq h4
  have hbs : ∀ b, b < 32 → bt (K4 761 20) b = (bt (K 761 20) b || decide (b = F)) := fun b hb32 => by rw [e20]; exact b_set (by omega) hb32
  refine ⟨K4, rfl, rfl, (((hf.put h1 (by omega)).put h2 (by omega)).put h3 (by omega)).put h4 (by omega), fun E hE hbt => ?_, ?_, fun b hb32 h => ?_⟩
  · rw [hbs E (by omega)] at hbt
    by_cases e : E = F
    · subst e
      refine ⟨?_, ?_, ?_⟩
      · rw [rd_ne h4 (by decide), rd_ne h3 (by decide), rd_ne h2 (by decide), rd_eq h1]
      · rw [rd_ne h4 (by decide), rd_ne h3 (by decide), rd_eq h2]
      · rw [rd_ne h4 (by decide), rd_eq h3]
    · have hq : bt (K 761 20) E = true := by simpa [e] using hbt
      obtain ⟨q1, q2, q3⟩ := hm E hE hq
      refine ⟨?_, ?_, ?_⟩
      · rw [rd_ne h4 (by decide), rd_ne h3 (by decide), rd_ne h2 (by decide), rd_nk h1 e]; exact q1
      · rw [rd_ne h4 (by decide), rd_ne h3 (by decide), rd_nk h2 e, rd_ne h1 (by decide)]; exact q2
      · rw [rd_ne h4 (by decide), rd_nk h3 e, rd_ne h2 (by decide), rd_ne h1 (by decide)]; exact q3
  · rw [hbs F (by omega)]; simp
  · rw [hbs b hb32, hb b hb32 h]; rfl
theorem c_M_answer1 {d : Nat} {I : Nat → Nat → Int32} {R : Nat → Nat → Option Nat} {L : Nat → Nat → Int64} {sh : Nat → Nat × Nat} {N : Nat} (hS : ShOK sh) (hR : RfOK R) {kA fA cA gA nk nt : Nat} (hT : TRf R sh kA fA cA gA nk) (hTn : TNe kA fA cA gA) (hV : TV (I kA) (I fA) (I cA) nt) (hnt : nt ≤ nk) (hnk : nk ≤ 1000000) {nP nF : Nat} (hW : WFA (I 762) nP nF nt) {p : Nat} (hp : p < nP) {rk : Nat → Nat} (hrk : RK (I 762) nF rk) {J : Nat → Nat → Int32} (hJ : FrA I J) (hM : MEM (PA I kA fA cA gA p) nF J) {F : Nat} (hF : F < nF) (ihA : ∀ o, o < nF → rk o < rk F → ∀ J, FrA I J → MEM (PA I kA fA cA gA p) nF J → ∀ d, nt + 5 + 2 * rk o ≤ d → Mt mi_M_answer d 0 0 [.ref 761, .int (nI o), .int (nI p)] (J, R, L, sh, N) (AQ (PA I kA fA cA gA p) nF o I J R L sh N)) (hd : nt + 5 + 2 * rk F ≤ d) : Mt mi_M_answer d 0 0 [.ref 761, .int (nI F), .int (nI p)] (J, R, L, sh, N) (AQ (PA I kA fA cA gA p) nF F I J R L sh N) := by
  obtain ⟨hPc, hP24, hFc, hF12, hWF, hWP⟩ := id hW
  refine Mt.of pn_M (Nat.le_of_ble_eq_true rfl) ?_
  show Run mi_M_answer d 0 0 0 [(0, .ref 761), (1, .int (nI F)), (2, .int (nI p))] [] (J, R, L, sh, N) _
  refine r_aload_n (x := some 761) (pc2 := 1) d_M_answer_0 rfl rfl ?_
  refine q_getI (x := J 761 20) (pc2 := 4) d_M_answer_1 rfl k_M_170 (by decide) (sh_761 hS) rfl ?_
  refine r_iload_n (pc2 := 5) d_M_answer_4 rfl rfl ?_
  refine r_ishr (pc2 := 6) d_M_answer_5 rfl ?_
  refine r_iconst (v := nI 1) (pc2 := 7) d_M_answer_6 rfl (by decide) ?_
  refine r_iand (pc2 := 8) d_M_answer_7 rfl ?_
  refine q_top (y := bI (bt (J 761 20) F = true)) (b_test (by omega)) ?_
  refine q_bif_ne (tgt := 55) (pc2 := 11) d_M_answer_8 rfl rfl (fun c1 => ?_) (fun c1 => ?_)
  · refine r_aload_n (x := some 761) (pc2 := 56) d_M_answer_55 rfl rfl ?_
    refine q_getR (x := some 772) (pc2 := 59) d_M_answer_56 rfl k_M_40 rfl (sh_761 hS) (rf_761_17 hR) ?_
    refine r_iload_n (pc2 := 60) d_M_answer_59 rfl rfl ?_
    refine q_iaload (q := F) (x := J 772 F) (pc2 := 61) d_M_answer_60 rfl (sh_772 hS) (nI_toInt (by omega)) (by omega) rfl ?_
    refine Run.ret (some (.int (J 772 F))) d_M_answer_61 ⟨_, rfl⟩ ?_
    exact ⟨J, rfl, by rw [(hM F hF c1).1], hJ, hM, c1, fun b _ h => h⟩
  · refine r_aload_n (x := some 761) (pc2 := 12) d_M_answer_11 rfl rfl ?_
    refine q_getR (x := some 772) (pc2 := 15) d_M_answer_12 rfl k_M_40 rfl (sh_761 hS) (rf_761_17 hR) ?_
    refine r_iload_n (pc2 := 16) d_M_answer_15 rfl rfl ?_
    refine r_aload_n (x := some 761) (pc2 := 17) d_M_answer_16 rfl rfl ?_
    refine r_iload_n (pc2 := 18) d_M_answer_17 rfl rfl ?_
    refine r_iload_n (pc2 := 19) d_M_answer_18 rfl rfl ?_
    refine r_callv (M2 := mi_M_workedOut) (pc2 := 22) d_M_answer_19 rfl k_M_176 cm_M_workedOut cv_M_workedOut (sh_761 hS) (by decide) rfl rfl rfl (Nat.le_of_ble_eq_true rfl) (c_M_workedOut hS hR hT hTn hV hnt hnk hW hp hrk hJ hM hF ihA (d := d - 1) (by omega)) (d2 := d - 1) (by omega) (Nat.le_of_eq (Nat.zero_add _)) (Nat.le_of_eq (Nat.zero_add _)) (fun r2 h2 hq2 => ?_)
    obtain ⟨K, rfl, rfl, hK, hMK, h15, h16, hbK⟩ := hq2
    change Run _ _ _ _ _ _ [.int ((PA I kA fA cA gA p F).1), .int (nI F), .ref 772] _ _
    refine q_iastore (q := F) (pc2 := 23) d_M_answer_22 rfl (sh_772 hS) (nI_toInt (by omega)) (by omega) (fun I2 hI2 => ?_)
    refine r_aload_n (x := some 761) (pc2 := 24) d_M_answer_23 rfl rfl ?_
    refine q_getR (x := some 773) (pc2 := 27) d_M_answer_24 rfl k_M_43 rfl (sh_761 hS) (rf_761_18 hR) ?_
    refine r_iload_n (pc2 := 28) d_M_answer_27 rfl rfl ?_
    refine r_aload_n (x := some 761) (pc2 := 29) d_M_answer_28 rfl rfl ?_
    refine q_getI (x := (PA I kA fA cA gA p F).2.1) (pc2 := 32) d_M_answer_29 rfl k_M_164 (by decide) (sh_761 hS) ((rd_ne hI2 (by decide)).trans (h15)) ?_
    refine q_iastore (q := F) (pc2 := 33) d_M_answer_32 rfl (sh_773 hS) (nI_toInt (by omega)) (by omega) (fun I3 hI3 => ?_)
    refine r_aload_n (x := some 761) (pc2 := 34) d_M_answer_33 rfl rfl ?_
    refine q_getR (x := some 774) (pc2 := 37) d_M_answer_34 rfl k_M_46 rfl (sh_761 hS) (rf_761_19 hR) ?_
    refine r_iload_n (pc2 := 38) d_M_answer_37 rfl rfl ?_
    refine r_aload_n (x := some 761) (pc2 := 39) d_M_answer_38 rfl rfl ?_
    refine q_getI (x := (PA I kA fA cA gA p F).2.2) (pc2 := 42) d_M_answer_39 rfl k_M_167 (by decide) (sh_761 hS) ((rd_ne hI3 (by decide)).trans ((rd_ne hI2 (by decide)).trans (h16))) ?_
    refine q_iastore (q := F) (pc2 := 43) d_M_answer_42 rfl (sh_774 hS) (nI_toInt (by omega)) (by omega) (fun I4 hI4 => ?_)
    refine r_aload_n (x := some 761) (pc2 := 44) d_M_answer_43 rfl rfl ?_
    refine r_dup (pc2 := 45) d_M_answer_44 rfl rfl ?_
    refine q_getI (x := K 761 20) (pc2 := 48) d_M_answer_45 rfl k_M_170 (by decide) (sh_761 hS) ((rd_ne hI4 (by decide)).trans ((rd_ne hI3 (by decide)).trans (rd_ne hI2 (by decide)))) ?_
    refine r_iconst (v := nI 1) (pc2 := 49) d_M_answer_48 rfl (by decide) ?_
    refine r_iload_n (pc2 := 50) d_M_answer_49 rfl rfl ?_
    refine r_ishl (pc2 := 51) d_M_answer_50 rfl ?_
    refine r_ior (pc2 := 52) d_M_answer_51 rfl ?_
    refine q_putI (pc2 := 55) d_M_answer_52 rfl k_M_170 (Or.inl rfl) (sh_761 hS) (Or.inl rfl) (fun I5 hI5 => ?_)
    refine r_aload_n (x := some 761) (pc2 := 56) d_M_answer_55 rfl rfl ?_
    refine q_getR (x := some 772) (pc2 := 59) d_M_answer_56 rfl k_M_40 rfl (sh_761 hS) (rf_761_17 hR) ?_
    refine r_iload_n (pc2 := 60) d_M_answer_59 rfl rfl ?_
    refine q_iaload (q := F) (x := (PA I kA fA cA gA p F).1) (pc2 := 61) d_M_answer_60 rfl (sh_772 hS) (nI_toInt (by omega)) (by omega) ((rd_ne hI5 (by decide)).trans ((rd_ne hI4 (by decide)).trans ((rd_ne hI3 (by decide)).trans (rd_eq hI2)))) ?_
    refine Run.ret (some (.int ((PA I kA fA cA gA p F).1))) d_M_answer_61 ⟨_, rfl⟩ ?_
    exact AQ.mk hF hF12 hK hMK hI2 hI3 hI4 hI5 hbK
theorem c_M_answer {I : Nat → Nat → Int32} {R : Nat → Nat → Option Nat} {L : Nat → Nat → Int64} {sh : Nat → Nat × Nat} {N : Nat} (hS : ShOK sh) (hR : RfOK R) {kA fA cA gA nk nt : Nat} (hT : TRf R sh kA fA cA gA nk) (hTn : TNe kA fA cA gA) (hV : TV (I kA) (I fA) (I cA) nt) (hnt : nt ≤ nk) (hnk : nk ≤ 1000000) {nP nF : Nat} (hW : WFA (I 762) nP nF nt) {p : Nat} (hp : p < nP) {rk : Nat → Nat} (hrk : RK (I 762) nF rk) : ∀ (k F : Nat), rk F = k → F < nF → ∀ J, FrA I J → MEM (PA I kA fA cA gA p) nF J → ∀ d, nt + 5 + 2 * rk F ≤ d → Mt mi_M_answer d 0 0 [.ref 761, .int (nI F), .int (nI p)] (J, R, L, sh, N) (AQ (PA I kA fA cA gA p) nF F I J R L sh N) := by
  intro k
  induction k using Nat.strongRecOn with | ind k ih => ?_
  intro F hk hF J hJ hM d hd
  exact c_M_answer1 hS hR hT hTn hV hnt hnk hW hp hrk hJ hM hF (fun o ho hr J hJ hM d hd => ih (rk o) (by omega) o rfl ho J hJ hM d hd) hd
/-- an answer afresh -/
def FQ (A : Nat → Int32 × Int32 × Int32) (nF F : Nat) (I : Nat → Nat → Int32) (R : Nat → Nat → Option Nat) (L : Nat → Nat → Int64) (sh : Nat → Nat × Nat) (N : Nat) : Option Value → HS → Prop :=
  fun r h' => ∃ K, h' = (K, R, L, sh, N) ∧ r = some (.int (A F).1) ∧ FrA I K ∧ MEM A nF K ∧ K 772 F = (A F).1 ∧ K 773 F = (A F).2.1 ∧ K 774 F = (A F).2.2 ∧ bt (K 761 20) F = true
theorem c_M_fresh {d : Nat} {I : Nat → Nat → Int32} {R : Nat → Nat → Option Nat} {L : Nat → Nat → Int64} {sh : Nat → Nat × Nat} {N : Nat} (hS : ShOK sh) (hR : RfOK R) {kA fA cA gA nk nt : Nat} (hT : TRf R sh kA fA cA gA nk) (hTn : TNe kA fA cA gA) (hV : TV (I kA) (I fA) (I cA) nt) (hnt : nt ≤ nk) (hnk : nk ≤ 1000000) {nP nF : Nat} (hW : WFA (I 762) nP nF nt) {p : Nat} (hp : p < nP) {rk : Nat → Nat} (hrk : RK (I 762) nF rk) {F : Nat} (hF : F < nF) (hd : nt + 30 ≤ d) : Mt mi_M_fresh d 0 0 [.ref 761, .int (nI F), .int (nI p)] (I, R, L, sh, N) (FQ (PA I kA fA cA gA p) nF F I R L sh N) := by
  have hr12 := (hrk F hF).1
  refine Mt.of pn_M (Nat.le_of_ble_eq_true rfl) ?_
  show Run mi_M_fresh d 0 0 0 [(0, .ref 761), (1, .int (nI F)), (2, .int (nI p))] [] (I, R, L, sh, N) _
  refine r_aload_n (x := some 761) (pc2 := 1) d_M_fresh_0 rfl rfl ?_
  refine r_iconst (v := nI 0) (pc2 := 2) d_M_fresh_1 rfl (by decide) ?_
  refine q_putI (pc2 := 5) d_M_fresh_2 rfl k_M_170 (Or.inl rfl) (sh_761 hS) (Or.inl rfl) (fun I1 hI1 => ?_)
  refine r_aload_n (x := some 761) (pc2 := 6) d_M_fresh_5 rfl rfl ?_
  refine r_iload_n (pc2 := 7) d_M_fresh_6 rfl rfl ?_
  refine r_iload_n (pc2 := 8) d_M_fresh_7 rfl rfl ?_
  refine r_callv (M2 := mi_M_answer) (pc2 := 11) d_M_fresh_8 rfl k_M_173 cm_M_answer cv_M_answer (sh_761 hS) (by decide) rfl rfl rfl (Nat.le_of_ble_eq_true rfl) (c_M_answer hS hR hT hTn hV hnt hnk hW hp hrk _ F rfl hF I1 (FrA.rf.put hI1 (by omega)) (fun E hE hbt => by rw [rd_eq hI1, show nI 0 = 0 from rfl, b_0] at hbt; cases hbt) (d - 1) (by omega)) (d2 := d - 1) (by omega) (Nat.le_of_eq (Nat.zero_add _)) (Nat.le_of_eq (Nat.zero_add _)) (fun r2 h2 hq2 => ?_)
  obtain ⟨K, rfl, rfl, hK, hMK, hbt, hbK⟩ := hq2
  change Run _ _ _ _ _ _ [.int ((PA I kA fA cA gA p F).1)] _ _
  refine Run.ret (some (.int ((PA I kA fA cA gA p F).1))) d_M_fresh_11 ⟨_, rfl⟩ ?_
  exact ⟨K, rfl, rfl, hK, hMK, (hMK F hF hbt).1, (hMK F hF hbt).2.1, (hMK F hF hbt).2.2, hbt⟩
