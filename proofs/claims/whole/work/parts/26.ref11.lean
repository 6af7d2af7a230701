/-! THE REFERENCE: the way of an answer -/
theorem c_M_answerS {d : Nat} {I : Nat → Nat → Int32} {R : Nat → Nat → Option Nat} {L : Nat → Nat → Int64} {sh : Nat → Nat × Nat} {N : Nat} (hS : ShOK sh) (hR : RfOK R) {kA fA cA gA nk nt : Nat} (hT : TRf R sh kA fA cA gA nk) (hTn : TNe kA fA cA gA) (hV : TV (I kA) (I fA) (I cA) nt) (hnt : nt ≤ nk) (hnk : nk ≤ 1000000) {nP nF : Nat} (hW : WFA (I 762) nP nF nt) {rk : Nat → Nat} (hrk : RK (I 762) nF rk) {p : Nat} (hp : p < nP) {F : Nat} (hF : F < nF) {J : Nat → Nat → Int32} (hJ : FrS I J) (hM : MEM (PA I kA fA cA gA p) nF J) (hd : nt + 30 ≤ d) : Mt mi_M_answer d 0 0 [.ref 761, .int (nI F), .int (nI p)] (J, R, L, sh, N)
    (fun r h' => ∃ K, h' = (K, R, L, sh, N) ∧ r = some (.int (PA I kA fA cA gA p F).1) ∧ FrA J K ∧ MEM (PA I kA fA cA gA p) nF K ∧ bt (K 761 20) F = true ∧ ∀ b, b < 32 → bt (J 761 20) b = true → bt (K 761 20) b = true) := by
  obtain ⟨hn1, hn2, hn3, hn4⟩ := id hTn
  have hG : J 762 = I 762 := hJ.row (by decide) (by decide) (by decide)
  have hk_ : J kA = I kA := hJ.row (by omega) (by omega) (by omega)
  have hf_ : J fA = I fA := hJ.row (by omega) (by omega) (by omega)
  have hc_ : J cA = I cA := hJ.row (by omega) (by omega) (by omega)
  have hg_ : J gA = I gA := hJ.row (by omega) (by omega) (by omega)
  have e := PA_congr (p := p) hG hk_ hf_ hc_ hg_
  have hr12 := (hrk F hF).1
  rw [← e] at hM
  refine Mt.imp (fun r x hq => ?_) (c_M_answer (I := J) hS hR hT hTn (by rw [hk_, hf_, hc_]; exact hV) hnt hnk (by rw [hG]; exact hW) hp (by rw [hG]; exact hrk) _ F rfl hF J FrA.rf hM d (by omega))
  obtain ⟨K, h1, h2, h3, h4, h5, h6⟩ := hq
  rw [e] at h2 h4
  exact ⟨K, h1, h2, h3, h4, h5, h6⟩
/-- the way so far: its row and its length, and that all on it is worked out -/
def WAY (J : Nat → Nat → Int32) (acc : List Nat) : Prop := J 761 22 = nI acc.length ∧ (∀ i, i < acc.length → J 775 i = nI (acc.getD i 0)) ∧ ∀ x ∈ acc, bt (J 761 20) x = true
theorem WAY.fr {J K : Nat → Nat → Int32} {acc : List Nat} (h : WAY J acc) (hf : FrA J K) (hb : ∀ b, b < 32 → bt (J 761 20) b = true → bt (K 761 20) b = true) (hl : ∀ x ∈ acc, x < 32) : WAY K acc := by
  refine ⟨(hf 761 22 (by decide) (by decide) (by decide) (fun _ => by decide)).trans h.1, fun i hi => (hf 775 i (by decide) (by decide) (by decide) (fun e => absurd e (by decide))).trans (h.2.1 i hi), fun x hx => hb x (hl x hx) (h.2.2 x hx)⟩
theorem getD_app1 {l m : List Nat} {i : Nat} (h : i < l.length) : (l ++ m).getD i 0 = l.getD i 0 := by rw [List.getD_eq_getElem?_getD, List.getD_eq_getElem?_getD, List.getElem?_append_left h]
theorem getD_app2 {l : List Nat} {x : Nat} : (l ++ [x]).getD l.length 0 = x := by rw [List.getD_eq_getElem?_getD, List.getElem?_append_right (Nat.le_refl _), Nat.sub_self]; rfl
theorem mem_getD {acc : List Nat} {x : Nat} : x ∈ acc ↔ ∃ i, i < acc.length ∧ acc.getD i 0 = x := by
  rw [List.mem_iff_getElem]
  constructor
  · rintro ⟨i, hi, e⟩
    exact ⟨i, hi, by rw [List.getD_eq_getElem?_getD, List.getElem?_eq_getElem hi]; exact e⟩
  · rintro ⟨i, hi, e⟩
    exact ⟨i, hi, by rw [List.getD_eq_getElem?_getD, List.getElem?_eq_getElem hi] at e; exact e⟩
theorem t_M_goes_112 {d : Nat} {I : Nat → Nat → Int32} {R : Nat → Nat → Option Nat} {L : Nat → Nat → Int64} {sh : Nat → Nat × Nat} {N : Nat} (hS : ShOK sh) (hR : RfOK R) {kA fA cA gA nk nt : Nat} (hT : TRf R sh kA fA cA gA nk) (hTn : TNe kA fA cA gA) (hV : TV (I kA) (I fA) (I cA) nt) (hnt : nt ≤ nk) (hnk : nk ≤ 1000000) {nP nF : Nat} (hW : WFA (I 762) nP nF nt) {rk : Nat → Nat} (hrk : RK (I 762) nF rk) {p : Nat} (hp : p < nP) {F : Nat} (hF : F < nF) {J J0 : Nat → Nat → Int32} {acc acc2 : List Nat} (hb0 : ∀ b, b < 32 → bt (J0 761 20) b = true → bt (J 761 20) b = true) (v0_ : FrS I J) (v1_ : MEM (PA I kA fA cA gA p) nF J) (v2_ : WAY J acc2) (v3_ : acc2.Nodup) (v4_ : ∀ x ∈ acc2, x < nF) (v6_ : F ∉ acc2) (hbF : bt (J 761 20) F = true) (hpt : pth (I 762) (PA I kA fA cA gA p) 12 F acc = acc2 ++ [F]) : Run mi_M_goes d 0 0 112 [(0, .ref 761), (1, .int (nI F)), (2, .int (nI p))] [] (J, R, L, sh, N) (fun r h2 => r = none ∧ ∃ K, h2 = (K, R, L, sh, N) ∧ FrS I K ∧ MEM (PA I kA fA cA gA p) nF K ∧ WAY K (pth (I 762) (PA I kA fA cA gA p) 12 F acc) ∧ ∀ b, b < 32 → bt (J0 761 20) b = true → bt (K 761 20) b = true) := by
  obtain ⟨hPc, hP24, hFc, hF12, hWF, hWP⟩ := id hW
  have hnot : F ∉ acc2 := v6_
  have hlen := nodup_len nF (acc2 ++ [F]) (by rw [List.nodup_append]; exact ⟨v3_, by simp, fun a ha b hb e => hnot (by rw [List.mem_singleton] at hb; rw [← hb, ← e]; exact ha)⟩) (fun x hx => by
    rcases List.mem_append.mp hx with q | q
    · exact v4_ x q
    · rw [List.mem_singleton.mp q]; exact hF)
  rw [List.length_append, List.length_singleton] at hlen
  refine r_aload_n (x := some 761) (pc2 := 113) d_M_goes_112 rfl rfl ?_
  refine q_getR (x := some 775) (pc2 := 116) d_M_goes_113 rfl k_M_49 rfl (sh_761 hS) (rf_761_21 hR) ?_
  refine r_aload_n (x := some 761) (pc2 := 117) d_M_goes_116 rfl rfl ?_
  refine q_getI (x := nI acc2.length) (pc2 := 120) d_M_goes_117 rfl k_M_194 (by decide) (sh_761 hS) v2_.1 ?_
  refine r_iload_n (pc2 := 121) d_M_goes_120 rfl rfl ?_
  refine q_iastore (q := acc2.length) (pc2 := 122) d_M_goes_121 rfl (sh_775 hS) (nI_toInt (by omega)) (by omega) (fun I1 hI1 => ?_)
  refine r_aload_n (x := some 761) (pc2 := 123) d_M_goes_122 rfl rfl ?_
  refine r_dup (pc2 := 124) d_M_goes_123 rfl rfl ?_
  refine q_getI (x := nI acc2.length) (pc2 := 127) d_M_goes_124 rfl k_M_194 (by decide) (sh_761 hS) ((rd_ne hI1 (by decide)).trans (v2_.1)) ?_
  refine r_iconst (v := nI 1) (pc2 := 128) d_M_goes_127 rfl (by decide) ?_
  refine q_iaddN (pc2 := 129) d_M_goes_128 rfl ?_
  refine q_putI (pc2 := 132) d_M_goes_129 rfl k_M_194 (Or.inl rfl) (sh_761 hS) (Or.inl rfl) (fun I2 hI2 => ?_)
  refine Run.ret none d_M_goes_132 rfl ?_
  refine ⟨rfl, _, rfl, (v0_.put hI1 (by unfold scr; omega)).put hI2 (by unfold scr; omega), ?_, ?_, fun b hb32 hbb => by rw [rd_nk hI2 (by decide), rd_ne hI1 (by decide)]; exact hb0 b hb32 hbb⟩
  · intro E hE hbt
    rw [rd_nk hI2 (by decide), rd_ne hI1 (by decide)] at hbt
    rw [rd_ne hI2 (by decide), rd_ne hI1 (by decide), rd_ne hI2 (by decide), rd_ne hI1 (by decide), rd_ne hI2 (by decide), rd_ne hI1 (by decide)]
    exact v1_ E hE hbt
  rw [show pth (I 762) (PA I kA fA cA gA p) 12 F acc = acc2 ++ [F] from hpt]
  refine ⟨by rw [rd_eq hI2, List.length_append, List.length_singleton], fun i hi => ?_, fun x hx => ?_⟩
  · rw [rd_ne hI2 (by decide)]
    rw [List.length_append, List.length_singleton] at hi
    rcases Nat.lt_or_ge i acc2.length with q | q
    · rw [rd_nk hI1 (by omega), v2_.2.1 i q, getD_app1 q]
    · rw [show i = acc2.length by omega, rd_eq hI1, getD_app2]
  · rw [rd_nk hI2 (by decide), rd_ne hI1 (by decide)]
    rcases List.mem_append.mp hx with q | q
    · exact v2_.2.2 x q
    · rw [List.mem_singleton.mp q]; exact hbF
theorem l_M_goes_37 {d : Nat} {I : Nat → Nat → Int32} {R : Nat → Nat → Option Nat} {L : Nat → Nat → Int64} {sh : Nat → Nat × Nat} {N : Nat} (hS : ShOK sh) (hR : RfOK R) {kA fA cA gA nk nt : Nat} (hT : TRf R sh kA fA cA gA nk) (hTn : TNe kA fA cA gA) (hV : TV (I kA) (I fA) (I cA) nt) (hnt : nt ≤ nk) (hnk : nk ≤ 1000000) {nP nF : Nat} (hW : WFA (I 762) nP nF nt) {rk : Nat → Nat} (hrk : RK (I 762) nF rk) {p : Nat} (hp : p < nP) {J0 : Nat → Nat → Int32} {F : Nat} (hF : F < nF) (ihG : ∀ o, o < nF → rk o < rk F → ∀ (J : Nat → Nat → Int32) (acc : List Nat), FrS I J → MEM (PA I kA fA cA gA p) nF J → WAY J acc → acc.Nodup → (∀ x ∈ acc, x < nF) → ∀ d, nt + 45 + rk o ≤ d → Mt mi_M_goes d 0 0 [.ref 761, .int (nI o), .int (nI p)] (J, R, L, sh, N) (fun r h2 => r = none ∧ ∃ K, h2 = (K, R, L, sh, N) ∧ FrS I K ∧ MEM (PA I kA fA cA gA p) nF K ∧ WAY K (pth (I 762) (PA I kA fA cA gA p) 12 o acc) ∧ ∀ b, b < 32 → bt (J 761 20) b = true → bt (K 761 20) b = true)) {acc : List Nat} (hrs : 2 < ((PA I kA fA cA gA p) F).2.1.toInt) (hpt : pth (I 762) (PA I kA fA cA gA p) 12 F acc = pthN (pth (I 762) (PA I kA fA cA gA p) 12) (nStop (I 762) (PA I kA fA cA gA p) F) (ndF (I 762) F) (I 762 (174 + 84 * F + 5)).toInt.toNat 0 acc ++ [F]) (hd : nt + 45 + rk F ≤ d) : ∀ (n_ : Nat) (n : Nat) (J : Nat → Nat → Int32) (acc2 : List Nat), (I 762 (174 + 84 * F + 5)).toInt.toNat - n = n_ → (FrS I J) → (MEM (PA I kA fA cA gA p) nF J) → (WAY J acc2) → (acc2.Nodup) → (∀ x ∈ acc2, x < nF) → (pthN (pth (I 762) (PA I kA fA cA gA p) 12) (nStop (I 762) (PA I kA fA cA gA p) F) (ndF (I 762) F) (I 762 (174 + 84 * F + 5)).toInt.toNat 0 acc = pthN (pth (I 762) (PA I kA fA cA gA p) 12) (nStop (I 762) (PA I kA fA cA gA p) F) (ndF (I 762) F) ((I 762 (174 + 84 * F + 5)).toInt.toNat - n) n acc2) → (F ∉ acc2) → (bt (J 761 20) F = true) → (n ≤ (I 762 (174 + 84 * F + 5)).toInt.toNat) → (∀ b, b < 32 → bt (J0 761 20) b = true → bt (J 761 20) b = true) → Run mi_M_goes d 0 0 37 [(0, .ref 761), (1, .int (nI F)), (2, .int (nI p)), (4, .int (nI n))] [] (J, R, L, sh, N) (fun r h2 => r = none ∧ ∃ K, h2 = (K, R, L, sh, N) ∧ FrS I K ∧ MEM (PA I kA fA cA gA p) nF K ∧ WAY K (pth (I 762) (PA I kA fA cA gA p) 12 F acc) ∧ ∀ b, b < 32 → bt (J0 761 20) b = true → bt (K 761 20) b = true) := by
  intro n_
  induction n_ using Nat.strongRecOn with | ind n_ ih_ => ?_
  intro n J acc2 hn_ v0_ v1_ v2_ v3_ v4_ v5_ v6_ v7_ v8_ v9_
  have hbF := v7_
  have hG : J 762 = I 762 := v0_.row (by decide) (by decide) (by decide)
  obtain ⟨hn1, hn2, hn3, hn4⟩ := id hTn
  have hk_ : J kA = I kA := v0_.row (by omega) (by omega) (by omega)
  have hf_ : J fA = I fA := v0_.row (by omega) (by omega) (by omega)
  have hc_ : J cA = I cA := v0_.row (by omega) (by omega) (by omega)
  have hg_ : J gA = I gA := v0_.row (by omega) (by omega) (by omega)
  obtain ⟨hPc, hP24, hFc, hF12, hWF, hWP⟩ := id hW
  obtain ⟨w0, w1, w2, w3, w4, w5, w6, w7, w8, w9, wN, wR, wK, wO⟩ := hWF F hF
  obtain ⟨nN, hnN, hnN2⟩ : ∃ nN : Nat, I 762 (174 + 84 * F + 5) = nI nN ∧ (I 762 (174 + 84 * F + 5)).toInt = (nN : Int) := ⟨(I 762 (174 + 84 * F + 5)).toInt.toNat, eq_nI (by omega), by omega⟩
  have hrs2 : J 773 F = (PA I kA fA cA gA p F).2.1 := (v1_ F hF hbF).2.1
  refine r_aload_n (x := some 761) (pc2 := 38) d_M_goes_37 rfl rfl ?_
  refine q_getR (x := some 773) (pc2 := 41) d_M_goes_38 rfl k_M_43 rfl (sh_761 hS) (rf_761_18 hR) ?_
  refine r_iload_n (pc2 := 42) d_M_goes_41 rfl rfl ?_
  refine q_iaload (q := F) (x := (PA I kA fA cA gA p F).2.1) (pc2 := 43) d_M_goes_42 rfl (sh_773 hS) (nI_toInt (by omega)) (by omega) hrs2 ?_
  refine r_iconst (v := nI 2) (pc2 := 44) d_M_goes_43 rfl (by decide) ?_
  refine q_icmp_le (tgt := 112) (A := ((PA I kA fA cA gA p F).2.1).toInt) (B := (2 : Int)) (pc2 := 47) d_M_goes_44 rfl rfl (rfl) (nI_toInt (by omega)) (fun c1 => ?_) (fun c1 => ?_)
  · refine Run.sub (l2 := [(0, .ref 761), (1, .int (nI F)), (2, .int (nI p))]) ⟨rfl, rfl, rfl, trivial⟩ ?_
    exact t_M_goes_112 hS hR hT hTn hV hnt hnk hW hrk hp hF v9_ v0_ v1_ v2_ v3_ v4_ v6_ hbF (by rw [hpt, v5_, show (I 762 (174 + 84 * F + 5)).toInt.toNat - n = 0 by omega]; rfl)
  · refine r_iload (pc2 := 49) d_M_goes_47 rfl rfl ?_
    refine r_aload_n (x := some 761) (pc2 := 50) d_M_goes_49 rfl rfl ?_
    refine r_iload_n (pc2 := 51) d_M_goes_50 rfl rfl ?_
    refine r_iconst (v := nI 5) (pc2 := 52) d_M_goes_51 rfl (by decide) ?_
    refine q_callv (M2 := mi_M_of) (pc2 := 55) d_M_goes_52 rfl k_M_76 cm_M_of cv_M_of (sh_761 hS) (by decide) rfl rfl rfl (Nat.le_of_ble_eq_true rfl) (c_M_of (I := J) (F := F) (W := 5) hS hR (by omega)) (d2 := d - 1) (by omega) (Nat.le_of_eq (Nat.zero_add _)) (Nat.le_of_eq (Nat.zero_add _)) ?_
    refine q_top (y := nI nN) ((congrFun hG _).trans (hnN)) ?_
    refine q_icmp_ge (tgt := 112) (A := ((n : Nat) : Int)) (B := ((nN : Nat) : Int)) (pc2 := 58) d_M_goes_55 rfl rfl (nI_toInt (by omega)) (nI_toInt (by omega)) (fun c2 => ?_) (fun c2 => ?_)
    · refine Run.sub (l2 := [(0, .ref 761), (1, .int (nI F)), (2, .int (nI p))]) ⟨rfl, rfl, rfl, trivial⟩ ?_
      exact t_M_goes_112 hS hR hT hTn hV hnt hnk hW hrk hp hF v9_ v0_ v1_ v2_ v3_ v4_ v6_ hbF (by rw [hpt, v5_, show (I 762 (174 + 84 * F + 5)).toInt.toNat - n = 0 by omega]; rfl)
    · obtain ⟨⟨n1, n2⟩, n3, n4⟩ := wN n (by omega)
      obtain ⟨ot, ho, ho2⟩ : ∃ ot : Nat, I 762 (174 + 84 * F + (14 + 2 * n)) = nI ot ∧ (I 762 (174 + 84 * F + (14 + 2 * n))).toInt = (ot : Int) := ⟨(I 762 (174 + 84 * F + (14 + 2 * n))).toInt.toNat, eq_nI (by omega), by omega⟩
      rw [ho2] at n1 n2
      have hnd : ndF (I 762) F n = ot := by unfold ndF; rw [ho2, Int.toNat_natCast]
      obtain ⟨hr1, hr2⟩ := (hrk F hF).2 n (by omega)
      rw [hnd] at hr1 hr2
      refine r_aload_n (x := some 761) (pc2 := 59) d_M_goes_58 rfl rfl ?_
      refine r_iload_n (pc2 := 60) d_M_goes_59 rfl rfl ?_
      refine r_bipush (v := nI 14) (pc2 := 62) d_M_goes_60 rfl (by decide) ?_
      refine r_iconst (v := nI 2) (pc2 := 63) d_M_goes_62 rfl (by decide) ?_
      refine r_iload (pc2 := 65) d_M_goes_63 rfl rfl ?_
      refine q_imulN (pc2 := 66) d_M_goes_65 rfl ?_
      refine q_iaddN (pc2 := 67) d_M_goes_66 rfl ?_
      refine q_callv (M2 := mi_M_of) (pc2 := 70) d_M_goes_67 rfl k_M_76 cm_M_of cv_M_of (sh_761 hS) (by decide) rfl rfl rfl (Nat.le_of_ble_eq_true rfl) (c_M_of (I := J) (F := F) (W := 14 + 2 * n) hS hR (by omega)) (d2 := d - 1) (by omega) (Nat.le_of_eq (Nat.zero_add _)) (Nat.le_of_eq (Nat.zero_add _)) ?_
      refine q_top (y := nI ot) ((congrFun hG _).trans (ho)) ?_
      refine r_istore (pc2 := 72) d_M_goes_70 rfl (Nat.le_of_ble_eq_true rfl) ?_
      refine r_aload_n (x := some 761) (pc2 := 73) d_M_goes_72 rfl rfl ?_
      refine r_iload (pc2 := 75) d_M_goes_73 rfl rfl ?_
      refine r_iload_n (pc2 := 76) d_M_goes_75 rfl rfl ?_
      refine r_callv (M2 := mi_M_goes) (pc2 := 79) d_M_goes_76 rfl k_M_197 cm_M_goes cv_M_goes (sh_761 hS) (by decide) rfl rfl rfl (Nat.le_of_ble_eq_true rfl) (ihG ot (by omega) (by omega) J acc2 v0_ v1_ v2_ v3_ v4_ (d - 1) (by omega)) (d2 := d - 1) (by omega) (Nat.le_of_eq (Nat.zero_add _)) (Nat.le_of_eq (Nat.zero_add _)) (fun r2 h2 hq2 => ?_)
      obtain ⟨rfl, J2, rfl, hJ2, hM2, hW2, hb2⟩ := hq2
      change Run _ _ _ _ _ _ [] _ _
      have hG2 : J2 762 = I 762 := hJ2.row (by decide) (by decide) (by decide)
      have hk_2 : J2 kA = I kA := hJ2.row (by omega) (by omega) (by omega)
      have hf_2 : J2 fA = I fA := hJ2.row (by omega) (by omega) (by omega)
      have hc_2 : J2 cA = I cA := hJ2.row (by omega) (by omega) (by omega)
      have hg_2 : J2 gA = I gA := hJ2.row (by omega) (by omega) (by omega)
      have hpi := pth_inv (A := PA I kA fA cA gA p) hrk (rk ot) ot rfl (by omega) 12 (by have := (hrk ot (by omega)).1; omega) acc2 v3_ v4_
      have hbF2 := hb2 F (by omega) hbF
      have hgot := (hM2 ot (by omega) (hW2.2.2 ot hpi.2)).1
      refine r_aload_n (x := some 761) (pc2 := 80) d_M_goes_79 rfl rfl ?_
      refine q_getR (x := some 772) (pc2 := 83) d_M_goes_80 rfl k_M_40 rfl (sh_761 hS) (rf_761_17 hR) ?_
      refine r_iload (pc2 := 85) d_M_goes_83 rfl rfl ?_
      refine q_iaload (q := ot) (x := (PA I kA fA cA gA p ot).1) (pc2 := 86) d_M_goes_85 rfl (sh_772 hS) (nI_toInt (by omega)) (by omega) hgot ?_
      refine r_aload_n (x := some 761) (pc2 := 87) d_M_goes_86 rfl rfl ?_
      refine r_iload_n (pc2 := 88) d_M_goes_87 rfl rfl ?_
      refine r_bipush (v := nI 14) (pc2 := 90) d_M_goes_88 rfl (by decide) ?_
      refine r_iconst (v := nI 2) (pc2 := 91) d_M_goes_90 rfl (by decide) ?_
      refine r_iload (pc2 := 93) d_M_goes_91 rfl rfl ?_
      refine q_imulN (pc2 := 94) d_M_goes_93 rfl ?_
      refine q_iaddN (pc2 := 95) d_M_goes_94 rfl ?_
      refine r_iconst (v := nI 1) (pc2 := 96) d_M_goes_95 rfl (by decide) ?_
      refine q_iaddN (pc2 := 97) d_M_goes_96 rfl ?_
      refine q_callv (M2 := mi_M_of) (pc2 := 100) d_M_goes_97 rfl k_M_76 cm_M_of cv_M_of (sh_761 hS) (by decide) rfl rfl rfl (Nat.le_of_ble_eq_true rfl) (c_M_of (I := J2) (F := F) (W := 14 + 2 * n + 1) hS hR (by omega)) (d2 := d - 1) (by omega) (Nat.le_of_eq (Nat.zero_add _)) (Nat.le_of_eq (Nat.zero_add _)) ?_
      refine q_top (y := I 762 (174 + 84 * F + (14 + 2 * n + 1))) (congrFun hG2 _) ?_
      refine q_icmp_eq (tgt := 106) (A := ((PA I kA fA cA gA p ot).1).toInt) (B := (I 762 (174 + 84 * F + (14 + 2 * n + 1))).toInt) (pc2 := 103) d_M_goes_100 rfl rfl (rfl) (rfl) (fun c3 => ?_) (fun c3 => ?_)
      · refine q_iinc (b := 1) (pc2 := 109) d_M_goes_106 rfl rfl (by decide) (Nat.le_of_ble_eq_true rfl) ?_
        refine r_goto (tgt := 37) d_M_goes_109 rfl ?_
        refine Run.sub (l2 := [(0, .ref 761), (1, .int (nI F)), (2, .int (nI p)), (4, .int (nI (n + 1)))]) ⟨rfl, rfl, rfl, rfl, trivial⟩ ?_
        exact ih_ ((I 762 (174 + 84 * F + 5)).toInt.toNat - (n + 1)) (by omega) (n + 1) J2 (pth (I 762) (PA I kA fA cA gA p) 12 ot acc2) rfl (hJ2) (hM2) (hW2) (hpi.1.1) (hpi.1.2.1) (by
          rw [v5_, show (I 762 (174 + 84 * F + 5)).toInt.toNat - n = ((I 762 (174 + 84 * F + 5)).toInt.toNat - (n + 1)) + 1 by omega, pthN, if_neg (by unfold nStop; rw [hnd]; simp only [decide_eq_true_eq]; exact fun q => q (Int32.toInt_inj.mp c3)), hnd]) (fun q => by
          rcases hpi.1.2.2.2 F q with z | z
          · exact v6_ z
          · omega) (hbF2) (by omega) (fun b hb32 h => hb2 b hb32 (v9_ b hb32 h))
      · refine r_goto (tgt := 112) d_M_goes_103 rfl ?_
        refine Run.sub (l2 := [(0, .ref 761), (1, .int (nI F)), (2, .int (nI p))]) ⟨rfl, rfl, rfl, trivial⟩ ?_
        exact t_M_goes_112 hS hR hT hTn hV hnt hnk hW hrk hp hF (fun b hb32 h => hb2 b hb32 (v9_ b hb32 h)) hJ2 hM2 hW2 hpi.1.1 hpi.1.2.1 (fun q => by
          rcases hpi.1.2.2.2 F q with z | z
          · exact v6_ z
          · omega) hbF2 (by rw [hpt, v5_, show (I 762 (174 + 84 * F + 5)).toInt.toNat - n = ((I 762 (174 + 84 * F + 5)).toInt.toNat - (n + 1)) + 1 by omega, pthN, if_pos (by unfold nStop; rw [hnd]; simp only [decide_eq_true_eq]; exact fun q => c3 (congrArg Int32.toInt q)), hnd])
