/-! THE REFERENCE: goes, would, path -/
theorem pth_12 {G : Nat → Int32} {A : Nat → Int32 × Int32 × Int32} {nF : Nat} {rk : Nat → Nat} (hr : RK G nF rk) {F : Nat} (hF : F < nF) {acc : List Nat} (hn : F ∉ acc) : pth G A 12 F acc = (if 2 < (A F).2.1.toInt then pthN (pth G A 12) (nStop G A F) (ndF G F) (G (174 + 84 * F + 5)).toInt.toNat 0 acc else acc) ++ [F] := by
  have := (hr F hF).1
  rw [pth_fuel hr (rk F) F rfl hF 12 13 (by omega) (by omega) acc]
  rw [pth, if_neg hn]
theorem pth_in {G : Nat → Int32} {A : Nat → Int32 × Int32 × Int32} {F : Nat} {acc : List Nat} (hn : F ∈ acc) : pth G A 12 F acc = acc := by
  rw [pth, if_pos hn]
theorem l_M_goes_2 {d : Nat} {I : Nat → Nat → Int32} {R : Nat → Nat → Option Nat} {L : Nat → Nat → Int64} {sh : Nat → Nat × Nat} {N : Nat} (hS : ShOK sh) (hR : RfOK R) {kA fA cA gA nk nt : Nat} (hT : TRf R sh kA fA cA gA nk) (hTn : TNe kA fA cA gA) (hV : TV (I kA) (I fA) (I cA) nt) (hnt : nt ≤ nk) (hnk : nk ≤ 1000000) {nP nF : Nat} (hW : WFA (I 762) nP nF nt) {rk : Nat → Nat} (hrk : RK (I 762) nF rk) {p : Nat} (hp : p < nP) {F : Nat} (hF : F < nF) {J : Nat → Nat → Int32} {acc : List Nat} (ihG : ∀ o, o < nF → rk o < rk F → ∀ (J : Nat → Nat → Int32) (acc : List Nat), FrS I J → MEM (PA I kA fA cA gA p) nF J → WAY J acc → acc.Nodup → (∀ x ∈ acc, x < nF) → ∀ d, nt + 45 + rk o ≤ d → Mt mi_M_goes d 0 0 [.ref 761, .int (nI o), .int (nI p)] (J, R, L, sh, N) (fun r h2 => r = none ∧ ∃ K, h2 = (K, R, L, sh, N) ∧ FrS I K ∧ MEM (PA I kA fA cA gA p) nF K ∧ WAY K (pth (I 762) (PA I kA fA cA gA p) 12 o acc) ∧ ∀ b, b < 32 → bt (J 761 20) b = true → bt (K 761 20) b = true)) (hJ : FrS I J) (hM : MEM (PA I kA fA cA gA p) nF J) (hWy : WAY J acc) (hnd : acc.Nodup) (hlt : ∀ x ∈ acc, x < nF) (hd : nt + 45 + rk F ≤ d) : ∀ (n_ : Nat) (i : Nat), acc.length - i = n_ → (∀ j, j < i → acc.getD j 0 ≠ F) → (i ≤ acc.length) → Run mi_M_goes d 0 0 2 [(0, .ref 761), (1, .int (nI F)), (2, .int (nI p)), (3, .int (nI i))] [] (J, R, L, sh, N) (fun r h2 => r = none ∧ ∃ K, h2 = (K, R, L, sh, N) ∧ FrS I K ∧ MEM (PA I kA fA cA gA p) nF K ∧ WAY K (pth (I 762) (PA I kA fA cA gA p) 12 F acc) ∧ ∀ b, b < 32 → bt (J 761 20) b = true → bt (K 761 20) b = true) := by
  intro n_
  induction n_ using Nat.strongRecOn with | ind n_ ih_ => ?_
  intro i hn_ v0_ v1_
  have hG : J 762 = I 762 := hJ.row (by decide) (by decide) (by decide)
  obtain ⟨hn1, hn2, hn3, hn4⟩ := id hTn
  have hk_ : J kA = I kA := hJ.row (by omega) (by omega) (by omega)
  have hf_ : J fA = I fA := hJ.row (by omega) (by omega) (by omega)
  have hc_ : J cA = I cA := hJ.row (by omega) (by omega) (by omega)
  have hg_ : J gA = I gA := hJ.row (by omega) (by omega) (by omega)
  obtain ⟨hPc, hP24, hFc, hF12, hWF, hWP⟩ := id hW
  have hlen := nodup_len nF acc hnd hlt
  refine r_iload_n (pc2 := 3) d_M_goes_2 rfl rfl ?_
  refine r_aload_n (x := some 761) (pc2 := 4) d_M_goes_3 rfl rfl ?_
  refine q_getI (x := nI acc.length) (pc2 := 7) d_M_goes_4 rfl k_M_194 (by decide) (sh_761 hS) hWy.1 ?_
  refine q_icmp_ge (tgt := 27) (A := ((i : Nat) : Int)) (B := ((acc.length : Nat) : Int)) (pc2 := 10) d_M_goes_7 rfl rfl (nI_toInt (by omega)) (nI_toInt (by omega)) (fun c1 => ?_) (fun c1 => ?_)
  · have hnot : F ∉ acc := fun hx => by
      obtain ⟨j, hj, e⟩ := mem_getD.mp hx
      exact v0_ j (by omega) e
    have hfu := pth_12 hrk (A := PA I kA fA cA gA p) hF hnot
    refine r_aload_n (x := some 761) (pc2 := 28) d_M_goes_27 rfl rfl ?_
    refine r_iload_n (pc2 := 29) d_M_goes_28 rfl rfl ?_
    refine r_iload_n (pc2 := 30) d_M_goes_29 rfl rfl ?_
    refine r_callv (M2 := mi_M_answer) (pc2 := 33) d_M_goes_30 rfl k_M_173 cm_M_answer cv_M_answer (sh_761 hS) (by decide) rfl rfl rfl (Nat.le_of_ble_eq_true rfl) (c_M_answerS hS hR hT hTn hV hnt hnk hW hrk hp hF hJ hM (d := d - 1) (by omega)) (d2 := d - 1) (by omega) (Nat.le_of_eq (Nat.zero_add _)) (Nat.le_of_eq (Nat.zero_add _)) (fun r2 h2 hq2 => ?_)
    obtain ⟨J2, rfl, rfl, hA2, hM2, hbF2, hb2⟩ := hq2
    change Run _ _ _ _ _ _ [.int ((PA I kA fA cA gA p F).1)] _ _
    have hJ2 := hJ.tr hA2.s
    have hG2 : J2 762 = I 762 := hJ2.row (by decide) (by decide) (by decide)
    have hk_2 : J2 kA = I kA := hJ2.row (by omega) (by omega) (by omega)
    have hf_2 : J2 fA = I fA := hJ2.row (by omega) (by omega) (by omega)
    have hc_2 : J2 cA = I cA := hJ2.row (by omega) (by omega) (by omega)
    have hg_2 : J2 gA = I gA := hJ2.row (by omega) (by omega) (by omega)
    have hr2 := (hM2 F hF hbF2).2.1
    refine r_istore_n (pc2 := 34) d_M_goes_33 rfl rfl (Nat.le_of_ble_eq_true rfl) ?_
    refine r_iconst (v := nI 0) (pc2 := 35) d_M_goes_34 rfl (by decide) ?_
    refine r_istore (pc2 := 37) d_M_goes_35 rfl (Nat.le_of_ble_eq_true rfl) ?_
    have hWy2 : WAY J2 acc := hWy.fr hA2 hb2 (fun x hx => by have := hlt x hx; omega)
    by_cases h2r : 2 < ((PA I kA fA cA gA p) F).2.1.toInt
    · refine Run.sub (l2 := [(0, .ref 761), (1, .int (nI F)), (2, .int (nI p)), (4, .int (nI 0))]) ⟨rfl, rfl, rfl, rfl, trivial⟩ ?_
      exact l_M_goes_37 hS hR hT hTn hV hnt hnk hW hrk hp (J0 := J) hF ihG h2r (by rw [hfu, if_pos h2r]) (by omega) _ 0 J2 acc rfl hJ2 hM2 hWy2 hnd hlt rfl hnot hbF2 (by omega) hb2
    · refine r_aload_n (x := some 761) (pc2 := 38) d_M_goes_37 rfl rfl ?_
      refine q_getR (x := some 773) (pc2 := 41) d_M_goes_38 rfl k_M_43 rfl (sh_761 hS) (rf_761_18 hR) ?_
      refine r_iload_n (pc2 := 42) d_M_goes_41 rfl rfl ?_
      refine q_iaload (q := F) (x := (PA I kA fA cA gA p F).2.1) (pc2 := 43) d_M_goes_42 rfl (sh_773 hS) (nI_toInt (by omega)) (by omega) hr2 ?_
      refine r_iconst (v := nI 2) (pc2 := 44) d_M_goes_43 rfl (by decide) ?_
      refine q_icmp_le (tgt := 112) (A := ((PA I kA fA cA gA p F).2.1).toInt) (B := (2 : Int)) (pc2 := 47) d_M_goes_44 rfl rfl (rfl) (nI_toInt (by omega)) (fun c2 => ?_) (fun c2 => ?_)
      · refine Run.sub (l2 := [(0, .ref 761), (1, .int (nI F)), (2, .int (nI p))]) ⟨rfl, rfl, rfl, trivial⟩ ?_
        exact t_M_goes_112 hS hR hT hTn hV hnt hnk hW hrk hp hF (J0 := J) hb2 hJ2 hM2 hWy2 hnd hlt hnot hbF2 (by rw [hfu, if_neg h2r])
      · exfalso; omega
  · have hgi := hWy.2.1 i (by omega)
    have hgl : acc.getD i 0 < nF := hlt _ (mem_getD.mpr ⟨i, by omega, rfl⟩)
    refine r_aload_n (x := some 761) (pc2 := 11) d_M_goes_10 rfl rfl ?_
    refine q_getR (x := some 775) (pc2 := 14) d_M_goes_11 rfl k_M_49 rfl (sh_761 hS) (rf_761_21 hR) ?_
    refine r_iload_n (pc2 := 15) d_M_goes_14 rfl rfl ?_
    refine q_iaload (q := i) (x := nI (acc.getD i 0)) (pc2 := 16) d_M_goes_15 rfl (sh_775 hS) (nI_toInt (by omega)) (by omega) hgi ?_
    refine r_iload_n (pc2 := 17) d_M_goes_16 rfl rfl ?_
    refine q_icmp_ne (tgt := 21) (A := ((acc.getD i 0 : Nat) : Int)) (B := ((F : Nat) : Int)) (pc2 := 20) d_M_goes_17 rfl rfl (nI_toInt (by omega)) (nI_toInt (by omega)) (fun c3 => ?_) (fun c3 => ?_)
    · refine q_iinc (b := 1) (pc2 := 24) d_M_goes_21 rfl rfl (by decide) (Nat.le_of_ble_eq_true rfl) ?_
      refine r_goto (tgt := 2) d_M_goes_24 rfl ?_
      refine Run.sub (l2 := [(0, .ref 761), (1, .int (nI F)), (2, .int (nI p)), (3, .int (nI (i + 1)))]) ⟨rfl, rfl, rfl, rfl, trivial⟩ ?_
      exact ih_ (acc.length - (i + 1)) (by omega) (i + 1) rfl (fun j hj e => by
        rcases Nat.lt_or_ge j i with q | q
        · exact v0_ j q e
        · rw [show j = i by omega] at e
          rw [e] at hgi
          omega) (by omega)
    · refine Run.ret none d_M_goes_20 rfl ?_
      have hin : F ∈ acc := by
        have hx := mem_getD.mpr ⟨i, (show i < acc.length by omega), rfl⟩
        have hx2 := hlt _ hx
        have hq := nI_toInt (n := acc.getD i 0) (by omega)
        rw [show acc.getD i 0 = F by omega] at hx
        exact hx
      exact ⟨rfl, J, rfl, hJ, hM, by rw [pth_in hin]; exact hWy, fun b _ h => h⟩
theorem c_M_goes {I : Nat → Nat → Int32} {R : Nat → Nat → Option Nat} {L : Nat → Nat → Int64} {sh : Nat → Nat × Nat} {N : Nat} (hS : ShOK sh) (hR : RfOK R) {kA fA cA gA nk nt : Nat} (hT : TRf R sh kA fA cA gA nk) (hTn : TNe kA fA cA gA) (hV : TV (I kA) (I fA) (I cA) nt) (hnt : nt ≤ nk) (hnk : nk ≤ 1000000) {nP nF : Nat} (hW : WFA (I 762) nP nF nt) {rk : Nat → Nat} (hrk : RK (I 762) nF rk) {p : Nat} (hp : p < nP) : ∀ (k F : Nat), rk F = k → F < nF → ∀ (J : Nat → Nat → Int32) (acc : List Nat), FrS I J → MEM (PA I kA fA cA gA p) nF J → WAY J acc → acc.Nodup → (∀ x ∈ acc, x < nF) → ∀ d, nt + 45 + rk F ≤ d → Mt mi_M_goes d 0 0 [.ref 761, .int (nI F), .int (nI p)] (J, R, L, sh, N) (fun r h2 => r = none ∧ ∃ K, h2 = (K, R, L, sh, N) ∧ FrS I K ∧ MEM (PA I kA fA cA gA p) nF K ∧ WAY K (pth (I 762) (PA I kA fA cA gA p) 12 F acc) ∧ ∀ b, b < 32 → bt (J 761 20) b = true → bt (K 761 20) b = true) := by
  intro k
  induction k using Nat.strongRecOn with | ind k ih => ?_
  intro F hk hF J acc hJ hM hWy hnd hlt d hd
  obtain ⟨hPc, hP24, hFc, hF12, hWF, hWP⟩ := id hW
  refine Mt.of pn_M (Nat.le_of_ble_eq_true rfl) ?_
  show Run mi_M_goes d 0 0 0 [(0, .ref 761), (1, .int (nI F)), (2, .int (nI p))] [] (J, R, L, sh, N) _
  refine r_iconst (v := nI 0) (pc2 := 1) d_M_goes_0 rfl (by decide) ?_
  refine r_istore_n (pc2 := 2) d_M_goes_1 rfl rfl (Nat.le_of_ble_eq_true rfl) ?_
  refine Run.sub (l2 := [(0, .ref 761), (1, .int (nI F)), (2, .int (nI p)), (3, .int (nI 0))]) ⟨rfl, rfl, rfl, rfl, trivial⟩ ?_
  exact l_M_goes_2 hS hR hT hTn hV hnt hnk hW hrk hp hF (fun o ho hr J acc h1 h2 h3 h4 h5 d hd => ih (rk o) (by omega) o rfl ho J acc h1 h2 h3 h4 h5 d hd) hJ hM hWy hnd hlt hd _ 0 rfl (fun j hj => absurd hj (by omega)) (by omega)
/-- the fresh answer again, with all that it leaves worked out -/
def FQM (A : Nat → Int32 × Int32 × Int32) (nF F : Nat) (I : Nat → Nat → Int32) (R : Nat → Nat → Option Nat) (L : Nat → Nat → Int64) (sh : Nat → Nat × Nat) (N : Nat) : Option Value → HS → Prop :=
  fun r h' => ∃ K, h' = (K, R, L, sh, N) ∧ r = some (.int (A F).1) ∧ FrS I K ∧ MEM A nF K ∧ K 772 F = (A F).1 ∧ K 773 F = (A F).2.1 ∧ K 774 F = (A F).2.2
theorem c_M_freshM {d : Nat} {I : Nat → Nat → Int32} {R : Nat → Nat → Option Nat} {L : Nat → Nat → Int64} {sh : Nat → Nat × Nat} {N : Nat} (hS : ShOK sh) (hR : RfOK R) {kA fA cA gA nk nt : Nat} (hT : TRf R sh kA fA cA gA nk) (hTn : TNe kA fA cA gA) (hV : TV (I kA) (I fA) (I cA) nt) (hnt : nt ≤ nk) (hnk : nk ≤ 1000000) {nP nF : Nat} (hW : WFA (I 762) nP nF nt) {rk : Nat → Nat} (hrk : RK (I 762) nF rk) {p : Nat} (hp : p < nP) {F : Nat} (hF : F < nF) (hd : nt + 30 ≤ d) : Mt mi_M_fresh d 0 0 [.ref 761, .int (nI F), .int (nI p)] (I, R, L, sh, N) (FQM (PA I kA fA cA gA p) nF F I R L sh N) := by
  refine Mt.imp (fun r x hq => ?_) (c_M_fresh (I := I) hS hR hT hTn hV hnt hnk hW hp hrk hF hd)
  obtain ⟨K, h1, h2, h3, h4, h5, h6, h7, h8⟩ := hq
  exact ⟨K, h1, h2, h3.s, h4, h5, h6, h7⟩
def o_would (A : Nat → Nat → Int32 × Int32 × Int32) (G : Nat → Int32) (nP nF : Nat) (f key k : Int32) : Out := match pB G nP key with
  | none => .inr 0
  | some p => if 0 ≤ f.toInt ∧ f.toInt < (nF : Int) then (if k.toInt = 0 then .inl (A p f.toInt.toNat).1 else if k.toInt = 1 then .inl (A p f.toInt.toNat).2.1 else if k.toInt = 2 then .inl (A p f.toInt.toNat).2.2 else if k.toInt = 3 then .inl (nI (pth G (A p) 12 f.toInt.toNat []).length) else .inr 0) else .inr 0
def o_path (A : Nat → Nat → Int32 × Int32 × Int32) (G : Nat → Int32) (nP nF : Nat) (f key i k : Int32) : Out := match pB G nP key with
  | none => .inr 0
  | some p => if (0 ≤ f.toInt ∧ f.toInt < (nF : Int)) ∧ (0 ≤ i.toInt ∧ i.toInt < ((pth G (A p) 12 f.toInt.toNat []).length : Int)) then
      (let x := (pth G (A p) 12 f.toInt.toNat []).getD i.toInt.toNat 0
       if k.toInt = 0 then .inl (nI x) else if k.toInt = 1 then .inl (A p x).2.1 else if k.toInt = 2 then .inl (A p x).2.2 else if k.toInt = 3 then .inl (A p x).1 else .inr 0) else .inr 0
theorem c_M_would {d : Nat} {I : Nat → Nat → Int32} {R : Nat → Nat → Option Nat} {L : Nat → Nat → Int64} {sh : Nat → Nat × Nat} {N : Nat} (hS : ShOK sh) (hR : RfOK R) {kA fA cA gA nk nt : Nat} (hT : TRf R sh kA fA cA gA nk) (hTn : TNe kA fA cA gA) (hV : TV (I kA) (I fA) (I cA) nt) (hnt : nt ≤ nk) (hnk : nk ≤ 1000000) {nP nF : Nat} (hW : WFA (I 762) nP nF nt) {rk : Nat → Nat} (hrk : RK (I 762) nF rk) {f : Int32} {key : Int32} {k : Int32} (hd : nt + 60 ≤ d) : Mt mi_M_would d 0 0 [.ref 761, .int f, .int key, .int k] (I, R, L, sh, N) (RQ I R L sh N (o_would (PA I kA fA cA gA) (I 762) nP nF f key k)) := by
  obtain ⟨hPc, hP24, hFc, hF12, hWF, hWP⟩ := id hW
  refine Mt.of pn_M (Nat.le_of_ble_eq_true rfl) ?_
  show Run mi_M_would d 0 0 0 [(0, .ref 761), (1, .int f), (2, .int key), (3, .int k)] [] (I, R, L, sh, N) _
  obtain ⟨hn1, hn2, hn3, hn4⟩ := id hTn
  refine r_aload_n (x := some 761) (pc2 := 1) d_M_would_0 rfl rfl ?_
  refine r_iload_n (pc2 := 2) d_M_would_1 rfl rfl ?_
  refine q_callv (M2 := mi_M_personBy) (pc2 := 5) d_M_would_2 rfl k_M_204 cm_M_personBy cv_M_personBy (sh_761 hS) (by decide) rfl rfl rfl (Nat.le_of_ble_eq_true rfl) (c_M_personBy (I := I) (nP := nP) (key := key) hS hR (hPc) hP24 (by omega)) (d2 := d - 1) (by omega) (Nat.le_of_eq (Nat.zero_add _)) (Nat.le_of_eq (Nat.zero_add _)) ?_
  refine r_istore (pc2 := 7) d_M_would_5 rfl (Nat.le_of_ble_eq_true rfl) ?_
  cases hob : pB (I 762) nP key with
  | none =>
    refine r_aload_n (x := some 761) (pc2 := 8) d_M_would_7 rfl rfl ?_
    refine r_iload_n (pc2 := 9) d_M_would_8 rfl rfl ?_
    refine q_callv (M2 := mi_M_isFeature) (pc2 := 12) d_M_would_9 rfl k_M_72 cm_M_isFeature cv_M_isFeature (sh_761 hS) (by decide) rfl rfl rfl (Nat.le_of_ble_eq_true rfl) (c_M_isFeature (I := I) (nF := nF) (f := f) hS hR (hFc) hF12 (by omega)) (d2 := d - 1) (by omega) (Nat.le_of_eq (Nat.zero_add _)) (Nat.le_of_eq (Nat.zero_add _)) ?_
    refine q_bif_eq (tgt := 32) (pc2 := 15) d_M_would_12 rfl rfl (fun c1 => ?_) (fun c1 => ?_)
    · refine r_aload_n (x := some 761) (pc2 := 33) d_M_would_32 rfl rfl ?_
      refine r_bipush (v := (-32 : Int32)) (pc2 := 35) d_M_would_33 rfl (by decide) ?_
      refine q_callv (M2 := mi_M_refused) (pc2 := 38) d_M_would_35 rfl k_M_106 cm_M_refused cv_M_refused (sh_761 hS) (by decide) rfl rfl rfl (Nat.le_of_ble_eq_true rfl) (c_M_refused_0 (I := I) hS hR) (d2 := d - 1) (by omega) (Nat.le_of_eq (Nat.zero_add _)) (Nat.le_of_eq (Nat.zero_add _)) ?_
      obtain ⟨I2, hI2⟩ : ∃ x, x = u2 I 765 0 (I 765 0 + nI 1) := ⟨_, rfl⟩
      rw [← hI2]
      refine Run.ret (some (.int ((-32 : Int32)))) d_M_would_38 ⟨_, rfl⟩ ?_
      exact RQ.bad 0 (by unfold o_would; rw [hob]) (by decide) FrS.rf hI2
    · refine r_iload (pc2 := 17) d_M_would_15 rfl rfl ?_
      refine q_if_lt (tgt := 32) (A := (-1 : Int)) (pc2 := 20) d_M_would_17 rfl rfl (by decide) (fun c3 => ?_) (fun c3 => ?_)
      · refine r_aload_n (x := some 761) (pc2 := 33) d_M_would_32 rfl rfl ?_
        refine r_bipush (v := (-32 : Int32)) (pc2 := 35) d_M_would_33 rfl (by decide) ?_
        refine q_callv (M2 := mi_M_refused) (pc2 := 38) d_M_would_35 rfl k_M_106 cm_M_refused cv_M_refused (sh_761 hS) (by decide) rfl rfl rfl (Nat.le_of_ble_eq_true rfl) (c_M_refused_0 (I := I) hS hR) (d2 := d - 1) (by omega) (Nat.le_of_eq (Nat.zero_add _)) (Nat.le_of_eq (Nat.zero_add _)) ?_
        obtain ⟨I4, hI4⟩ : ∃ x, x = u2 I 765 0 (I 765 0 + nI 1) := ⟨_, rfl⟩
        rw [← hI4]
        refine Run.ret (some (.int ((-32 : Int32)))) d_M_would_38 ⟨_, rfl⟩ ?_
        exact RQ.bad 0 (by unfold o_would; rw [hob]) (by decide) FrS.rf hI4
      · refine r_iload_n (pc2 := 21) d_M_would_20 rfl rfl ?_
        refine r_i2l (pc2 := 22) d_M_would_21 rfl ?_
        refine r_lconst (v := (0 : Int64)) (pc2 := 23) d_M_would_22 rfl (by decide) ?_
        refine r_ldc2 (pc2 := 26) d_M_would_23 rfl k_M_210 ?_
        refine q_calls (M2 := mi_M_in) (pc2 := 29) d_M_would_26 rfl k_M_68 cm_M_in cs_M_in rfl rfl (Nat.le_of_ble_eq_true rfl) (c_M_in (A := k.toInt) (B := (0 : Int)) (C := (3 : Int)) (toInt64_toInt (rfl)) (by decide) (by decide)) (d2 := d - 1) (by omega) (Nat.le_of_eq (Nat.zero_add _)) (Nat.le_of_eq (Nat.zero_add _)) ?_
        refine q_bif_ne (tgt := 39) (pc2 := 32) d_M_would_29 rfl rfl (fun c5 => ?_) (fun c5 => ?_)
        · exfalso; omega
        · refine r_aload_n (x := some 761) (pc2 := 33) d_M_would_32 rfl rfl ?_
          refine r_bipush (v := (-32 : Int32)) (pc2 := 35) d_M_would_33 rfl (by decide) ?_
          refine q_callv (M2 := mi_M_refused) (pc2 := 38) d_M_would_35 rfl k_M_106 cm_M_refused cv_M_refused (sh_761 hS) (by decide) rfl rfl rfl (Nat.le_of_ble_eq_true rfl) (c_M_refused_0 (I := I) hS hR) (d2 := d - 1) (by omega) (Nat.le_of_eq (Nat.zero_add _)) (Nat.le_of_eq (Nat.zero_add _)) ?_
          obtain ⟨I6, hI6⟩ : ∃ x, x = u2 I 765 0 (I 765 0 + nI 1) := ⟨_, rfl⟩
          rw [← hI6]
          refine Run.ret (some (.int ((-32 : Int32)))) d_M_would_38 ⟨_, rfl⟩ ?_
          exact RQ.bad 0 (by unfold o_would; rw [hob]) (by decide) FrS.rf hI6
  | some p =>
    obtain ⟨hp, hp2, -⟩ := fst1_spec (show fst1 _ _ = some p from hob)
    refine r_aload_n (x := some 761) (pc2 := 8) d_M_would_7 rfl rfl ?_
    refine r_iload_n (pc2 := 9) d_M_would_8 rfl rfl ?_
    refine q_callv (M2 := mi_M_isFeature) (pc2 := 12) d_M_would_9 rfl k_M_72 cm_M_isFeature cv_M_isFeature (sh_761 hS) (by decide) rfl rfl rfl (Nat.le_of_ble_eq_true rfl) (c_M_isFeature (I := I) (nF := nF) (f := f) hS hR (hFc) hF12 (by omega)) (d2 := d - 1) (by omega) (Nat.le_of_eq (Nat.zero_add _)) (Nat.le_of_eq (Nat.zero_add _)) ?_
    refine q_bif_eq (tgt := 32) (pc2 := 15) d_M_would_12 rfl rfl (fun c7 => ?_) (fun c7 => ?_)
    · refine r_aload_n (x := some 761) (pc2 := 33) d_M_would_32 rfl rfl ?_
      refine r_bipush (v := (-32 : Int32)) (pc2 := 35) d_M_would_33 rfl (by decide) ?_
      refine q_callv (M2 := mi_M_refused) (pc2 := 38) d_M_would_35 rfl k_M_106 cm_M_refused cv_M_refused (sh_761 hS) (by decide) rfl rfl rfl (Nat.le_of_ble_eq_true rfl) (c_M_refused_0 (I := I) hS hR) (d2 := d - 1) (by omega) (Nat.le_of_eq (Nat.zero_add _)) (Nat.le_of_eq (Nat.zero_add _)) ?_
      obtain ⟨I8, hI8⟩ : ∃ x, x = u2 I 765 0 (I 765 0 + nI 1) := ⟨_, rfl⟩
      rw [← hI8]
      refine Run.ret (some (.int ((-32 : Int32)))) d_M_would_38 ⟨_, rfl⟩ ?_
      exact RQ.bad 0 (by unfold o_would; rw [hob]; dsimp only; rcases Classical.em (0 ≤ f.toInt ∧ f.toInt < (nF : Int)) with q | q <;> first | (rw [if_neg q]; done) | (rw [if_pos q, if_neg (by omega), if_neg (by omega), if_neg (by omega), if_neg (by omega)]; done)) (by decide) FrS.rf hI8
    · refine r_iload (pc2 := 17) d_M_would_15 rfl rfl ?_
      refine q_if_lt (tgt := 32) (A := ((p : Nat) : Int)) (pc2 := 20) d_M_would_17 rfl rfl (nI_toInt (by omega)) (fun c9 => ?_) (fun c9 => ?_)
      · refine r_aload_n (x := some 761) (pc2 := 33) d_M_would_32 rfl rfl ?_
        refine r_bipush (v := (-32 : Int32)) (pc2 := 35) d_M_would_33 rfl (by decide) ?_
        refine q_callv (M2 := mi_M_refused) (pc2 := 38) d_M_would_35 rfl k_M_106 cm_M_refused cv_M_refused (sh_761 hS) (by decide) rfl rfl rfl (Nat.le_of_ble_eq_true rfl) (c_M_refused_0 (I := I) hS hR) (d2 := d - 1) (by omega) (Nat.le_of_eq (Nat.zero_add _)) (Nat.le_of_eq (Nat.zero_add _)) ?_
        obtain ⟨I10, hI10⟩ : ∃ x, x = u2 I 765 0 (I 765 0 + nI 1) := ⟨_, rfl⟩
        rw [← hI10]
        refine Run.ret (some (.int ((-32 : Int32)))) d_M_would_38 ⟨_, rfl⟩ ?_
        exact RQ.bad 0 (by unfold o_would; rw [hob]; dsimp only; rcases Classical.em (0 ≤ f.toInt ∧ f.toInt < (nF : Int)) with q | q <;> first | (rw [if_neg q]; done) | (rw [if_pos q, if_neg (by omega), if_neg (by omega), if_neg (by omega), if_neg (by omega)]; done)) (by decide) FrS.rf hI10
      · refine r_iload_n (pc2 := 21) d_M_would_20 rfl rfl ?_
        refine r_i2l (pc2 := 22) d_M_would_21 rfl ?_
        refine r_lconst (v := (0 : Int64)) (pc2 := 23) d_M_would_22 rfl (by decide) ?_
        refine r_ldc2 (pc2 := 26) d_M_would_23 rfl k_M_210 ?_
        refine q_calls (M2 := mi_M_in) (pc2 := 29) d_M_would_26 rfl k_M_68 cm_M_in cs_M_in rfl rfl (Nat.le_of_ble_eq_true rfl) (c_M_in (A := k.toInt) (B := (0 : Int)) (C := (3 : Int)) (toInt64_toInt (rfl)) (by decide) (by decide)) (d2 := d - 1) (by omega) (Nat.le_of_eq (Nat.zero_add _)) (Nat.le_of_eq (Nat.zero_add _)) ?_
        refine q_bif_ne (tgt := 39) (pc2 := 32) d_M_would_29 rfl rfl (fun c11 => ?_) (fun c11 => ?_)
        · obtain ⟨F, hF, rfl, eF⟩ := nat_of c7
          refine r_aload_n (x := some 761) (pc2 := 40) d_M_would_39 rfl rfl ?_
          refine r_iload_n (pc2 := 41) d_M_would_40 rfl rfl ?_
          refine r_iload (pc2 := 43) d_M_would_41 rfl rfl ?_
          refine r_callv (M2 := mi_M_fresh) (pc2 := 46) d_M_would_43 rfl k_M_201 cm_M_fresh cv_M_fresh (sh_761 hS) (by decide) rfl rfl rfl (Nat.le_of_ble_eq_true rfl) (c_M_freshM hS hR hT hTn hV hnt hnk hW hrk hp (F := F) (by omega) (d := d - 1) (by omega)) (d2 := d - 1) (by omega) (Nat.le_of_eq (Nat.zero_add _)) (Nat.le_of_eq (Nat.zero_add _)) (fun r2 h2 hq2 => ?_)
          obtain ⟨K, rfl, rfl, hK, hMK, hK1, hK2, hK3⟩ := hq2
          change Run _ _ _ _ _ _ [.int ((PA I kA fA cA gA p F).1)] _ _
          have hG2 : K 762 = I 762 := hK.row (by decide) (by decide) (by decide)
          have hk_2 : K kA = I kA := hK.row (by omega) (by omega) (by omega)
          have hf_2 : K fA = I fA := hK.row (by omega) (by omega) (by omega)
          have hc_2 : K cA = I cA := hK.row (by omega) (by omega) (by omega)
          have hg_2 : K gA = I gA := hK.row (by omega) (by omega) (by omega)
          refine r_istore (pc2 := 48) d_M_would_46 rfl (Nat.le_of_ble_eq_true rfl) ?_
          refine r_iload_n (pc2 := 49) d_M_would_48 rfl rfl ?_
          refine r_iconst (v := nI 3) (pc2 := 50) d_M_would_49 rfl (by decide) ?_
          refine q_icmp_ne (tgt := 70) (A := k.toInt) (B := (3 : Int)) (pc2 := 53) d_M_would_50 rfl rfl (rfl) (nI_toInt (by omega)) (fun c12 => ?_) (fun c12 => ?_)
          · refine r_iload_n (pc2 := 71) d_M_would_70 rfl rfl ?_
            refine q_if_ne (tgt := 79) (A := k.toInt) (pc2 := 74) d_M_would_71 rfl rfl (rfl) (fun c13 => ?_) (fun c13 => ?_)
            · refine r_iload_n (pc2 := 80) d_M_would_79 rfl rfl ?_
              refine r_iconst (v := nI 1) (pc2 := 81) d_M_would_80 rfl (by decide) ?_
              refine q_icmp_ne (tgt := 93) (A := k.toInt) (B := (1 : Int)) (pc2 := 84) d_M_would_81 rfl rfl (rfl) (nI_toInt (by omega)) (fun c14 => ?_) (fun c14 => ?_)
              · refine r_aload_n (x := some 761) (pc2 := 94) d_M_would_93 rfl rfl ?_
                refine q_getR (x := some 774) (pc2 := 97) d_M_would_94 rfl k_M_46 rfl (sh_761 hS) (rf_761_19 hR) ?_
                refine r_iload_n (pc2 := 98) d_M_would_97 rfl rfl ?_
                refine q_iaload (q := F) (x := (PA I kA fA cA gA p F).2.2) (pc2 := 99) d_M_would_98 rfl (sh_774 hS) (nI_toInt (by omega)) (by omega) hK3 ?_
                refine Run.ret (some (.int ((PA I kA fA cA gA p F).2.2))) d_M_would_99 ⟨_, rfl⟩ ?_
                exact RQ.val (by unfold o_would; rw [hob]; dsimp only; rw [if_pos (by omega), eF, Int.toNat_natCast]; rw [if_neg (by omega), if_neg (by omega), if_pos (by omega)]) hK
              · refine r_aload_n (x := some 761) (pc2 := 85) d_M_would_84 rfl rfl ?_
                refine q_getR (x := some 773) (pc2 := 88) d_M_would_85 rfl k_M_43 rfl (sh_761 hS) (rf_761_18 hR) ?_
                refine r_iload_n (pc2 := 89) d_M_would_88 rfl rfl ?_
                refine q_iaload (q := F) (x := (PA I kA fA cA gA p F).2.1) (pc2 := 90) d_M_would_89 rfl (sh_773 hS) (nI_toInt (by omega)) (by omega) hK2 ?_
                refine r_goto (tgt := 99) d_M_would_90 rfl ?_
                refine Run.ret (some (.int ((PA I kA fA cA gA p F).2.1))) d_M_would_99 ⟨_, rfl⟩ ?_
                exact RQ.val (by unfold o_would; rw [hob]; dsimp only; rw [if_pos (by omega), eF, Int.toNat_natCast]; rw [if_neg (by omega), if_pos (by omega)]) hK
            · refine r_iload (pc2 := 76) d_M_would_74 rfl rfl ?_
              refine r_goto (tgt := 99) d_M_would_76 rfl ?_
              refine Run.ret (some (.int ((PA I kA fA cA gA p F).1))) d_M_would_99 ⟨_, rfl⟩ ?_
              exact RQ.val (by unfold o_would; rw [hob]; dsimp only; rw [if_pos (by omega), eF, Int.toNat_natCast]; rw [if_pos (by omega)]) hK
          · refine r_aload_n (x := some 761) (pc2 := 54) d_M_would_53 rfl rfl ?_
            refine r_iconst (v := nI 0) (pc2 := 55) d_M_would_54 rfl (by decide) ?_
            refine q_putI (pc2 := 58) d_M_would_55 rfl k_M_194 (Or.inl rfl) (sh_761 hS) (Or.inl rfl) (fun I15 hI15 => ?_)
            refine r_aload_n (x := some 761) (pc2 := 59) d_M_would_58 rfl rfl ?_
            refine r_iload_n (pc2 := 60) d_M_would_59 rfl rfl ?_
            refine r_iload (pc2 := 62) d_M_would_60 rfl rfl ?_
            refine r_callv (M2 := mi_M_goes) (pc2 := 65) d_M_would_62 rfl k_M_197 cm_M_goes cv_M_goes (sh_761 hS) (by decide) rfl rfl rfl (Nat.le_of_ble_eq_true rfl) (c_M_goes hS hR hT hTn hV hnt hnk hW hrk hp _ F rfl hF I15 [] (hK.put hI15 (by unfold scr; omega)) (fun E hE hbt => by rw [rd_nk hI15 (by decide)] at hbt; rw [rd_ne hI15 (by decide), rd_ne hI15 (by decide), rd_ne hI15 (by decide)]; exact hMK E hE hbt) ⟨rd_eq hI15, fun i hi => absurd hi (by simp), fun x hx => absurd hx List.not_mem_nil⟩ List.nodup_nil (fun x hx => absurd hx List.not_mem_nil) (d - 1) (by have := (hrk F hF).1; omega)) (d2 := d - 1) (by omega) (Nat.le_of_eq (Nat.zero_add _)) (Nat.le_of_eq (Nat.zero_add _)) (fun r2 h2 hq2 => ?_)
            obtain ⟨rfl, K3, rfl, hJ3, hM3, hW3, -⟩ := hq2
            change Run _ _ _ _ _ _ [] _ _
            have hG3 : K3 762 = I 762 := hJ3.row (by decide) (by decide) (by decide)
            have hk_3 : K3 kA = I kA := hJ3.row (by omega) (by omega) (by omega)
            have hf_3 : K3 fA = I fA := hJ3.row (by omega) (by omega) (by omega)
            have hc_3 : K3 cA = I cA := hJ3.row (by omega) (by omega) (by omega)
            have hg_3 : K3 gA = I gA := hJ3.row (by omega) (by omega) (by omega)
            obtain ⟨⟨hpn, hpl, -, -⟩, -⟩ := pth_inv (A := PA I kA fA cA gA p) hrk (rk F) F rfl hF 12 (hrk F hF).1 [] List.nodup_nil (fun x hx => absurd hx List.not_mem_nil)
            obtain ⟨l, hl⟩ : ∃ l, l = pth (I 762) (PA I kA fA cA gA p) 12 F [] := ⟨_, rfl⟩
            rw [← hl] at hpn hpl hW3
            have hlen := nodup_len nF l hpn hpl
            refine r_aload_n (x := some 761) (pc2 := 66) d_M_would_65 rfl rfl ?_
            refine q_getI (x := nI l.length) (pc2 := 69) d_M_would_66 rfl k_M_194 (by decide) (sh_761 hS) hW3.1 ?_
            refine Run.ret (some (.int (nI l.length))) d_M_would_69 ⟨_, rfl⟩ ?_
            exact RQ.val (by unfold o_would; rw [hob]; dsimp only; rw [if_pos (by omega), eF, Int.toNat_natCast]; rw [if_neg (by omega), if_neg (by omega), if_neg (by omega), if_pos (by omega), ← hl]) hJ3
        · refine r_aload_n (x := some 761) (pc2 := 33) d_M_would_32 rfl rfl ?_
          refine r_bipush (v := (-32 : Int32)) (pc2 := 35) d_M_would_33 rfl (by decide) ?_
          refine q_callv (M2 := mi_M_refused) (pc2 := 38) d_M_would_35 rfl k_M_106 cm_M_refused cv_M_refused (sh_761 hS) (by decide) rfl rfl rfl (Nat.le_of_ble_eq_true rfl) (c_M_refused_0 (I := I) hS hR) (d2 := d - 1) (by omega) (Nat.le_of_eq (Nat.zero_add _)) (Nat.le_of_eq (Nat.zero_add _)) ?_
          obtain ⟨I16, hI16⟩ : ∃ x, x = u2 I 765 0 (I 765 0 + nI 1) := ⟨_, rfl⟩
          rw [← hI16]
          refine Run.ret (some (.int ((-32 : Int32)))) d_M_would_38 ⟨_, rfl⟩ ?_
          exact RQ.bad 0 (by unfold o_would; rw [hob]; dsimp only; rcases Classical.em (0 ≤ f.toInt ∧ f.toInt < (nF : Int)) with q | q <;> first | (rw [if_neg q]; done) | (rw [if_pos q, if_neg (by omega), if_neg (by omega), if_neg (by omega), if_neg (by omega)]; done)) (by decide) FrS.rf hI16
theorem c_M_path {d : Nat} {I : Nat → Nat → Int32} {R : Nat → Nat → Option Nat} {L : Nat → Nat → Int64} {sh : Nat → Nat × Nat} {N : Nat} (hS : ShOK sh) (hR : RfOK R) {kA fA cA gA nk nt : Nat} (hT : TRf R sh kA fA cA gA nk) (hTn : TNe kA fA cA gA) (hV : TV (I kA) (I fA) (I cA) nt) (hnt : nt ≤ nk) (hnk : nk ≤ 1000000) {nP nF : Nat} (hW : WFA (I 762) nP nF nt) {rk : Nat → Nat} (hrk : RK (I 762) nF rk) {f : Int32} {key : Int32} {i : Int32} {k : Int32} (hd : nt + 60 ≤ d) : Mt mi_M_path d 0 0 [.ref 761, .int f, .int key, .int i, .int k] (I, R, L, sh, N) (RQ I R L sh N (o_path (PA I kA fA cA gA) (I 762) nP nF f key i k)) := by
  obtain ⟨hPc, hP24, hFc, hF12, hWF, hWP⟩ := id hW
  refine Mt.of pn_M (Nat.le_of_ble_eq_true rfl) ?_
  show Run mi_M_path d 0 0 0 [(0, .ref 761), (1, .int f), (2, .int key), (3, .int i), (4, .int k)] [] (I, R, L, sh, N) _
  obtain ⟨hn1, hn2, hn3, hn4⟩ := id hTn
  refine r_aload_n (x := some 761) (pc2 := 1) d_M_path_0 rfl rfl ?_
  refine r_iload_n (pc2 := 2) d_M_path_1 rfl rfl ?_
  refine q_callv (M2 := mi_M_personBy) (pc2 := 5) d_M_path_2 rfl k_M_204 cm_M_personBy cv_M_personBy (sh_761 hS) (by decide) rfl rfl rfl (Nat.le_of_ble_eq_true rfl) (c_M_personBy (I := I) (nP := nP) (key := key) hS hR (hPc) hP24 (by omega)) (d2 := d - 1) (by omega) (Nat.le_of_eq (Nat.zero_add _)) (Nat.le_of_eq (Nat.zero_add _)) ?_
  refine r_istore (pc2 := 7) d_M_path_5 rfl (Nat.le_of_ble_eq_true rfl) ?_
  cases hob : pB (I 762) nP key with
  | none =>
    refine r_aload_n (x := some 761) (pc2 := 8) d_M_path_7 rfl rfl ?_
    refine r_iload_n (pc2 := 9) d_M_path_8 rfl rfl ?_
    refine q_callv (M2 := mi_M_isFeature) (pc2 := 12) d_M_path_9 rfl k_M_72 cm_M_isFeature cv_M_isFeature (sh_761 hS) (by decide) rfl rfl rfl (Nat.le_of_ble_eq_true rfl) (c_M_isFeature (I := I) (nF := nF) (f := f) hS hR (hFc) hF12 (by omega)) (d2 := d - 1) (by omega) (Nat.le_of_eq (Nat.zero_add _)) (Nat.le_of_eq (Nat.zero_add _)) ?_
    refine q_bif_eq (tgt := 33) (pc2 := 15) d_M_path_12 rfl rfl (fun c1 => ?_) (fun c1 => ?_)
    · refine r_aload_n (x := some 761) (pc2 := 34) d_M_path_33 rfl rfl ?_
      refine r_bipush (v := (-32 : Int32)) (pc2 := 36) d_M_path_34 rfl (by decide) ?_
      refine q_callv (M2 := mi_M_refused) (pc2 := 39) d_M_path_36 rfl k_M_106 cm_M_refused cv_M_refused (sh_761 hS) (by decide) rfl rfl rfl (Nat.le_of_ble_eq_true rfl) (c_M_refused_0 (I := I) hS hR) (d2 := d - 1) (by omega) (Nat.le_of_eq (Nat.zero_add _)) (Nat.le_of_eq (Nat.zero_add _)) ?_
      obtain ⟨I2, hI2⟩ : ∃ x, x = u2 I 765 0 (I 765 0 + nI 1) := ⟨_, rfl⟩
      rw [← hI2]
      refine Run.ret (some (.int ((-32 : Int32)))) d_M_path_39 ⟨_, rfl⟩ ?_
      exact RQ.bad 0 (by unfold o_path; rw [hob]) (by decide) FrS.rf hI2
    · refine r_iload (pc2 := 17) d_M_path_15 rfl rfl ?_
      refine q_if_lt (tgt := 33) (A := (-1 : Int)) (pc2 := 20) d_M_path_17 rfl rfl (by decide) (fun c3 => ?_) (fun c3 => ?_)
      · refine r_aload_n (x := some 761) (pc2 := 34) d_M_path_33 rfl rfl ?_
        refine r_bipush (v := (-32 : Int32)) (pc2 := 36) d_M_path_34 rfl (by decide) ?_
        refine q_callv (M2 := mi_M_refused) (pc2 := 39) d_M_path_36 rfl k_M_106 cm_M_refused cv_M_refused (sh_761 hS) (by decide) rfl rfl rfl (Nat.le_of_ble_eq_true rfl) (c_M_refused_0 (I := I) hS hR) (d2 := d - 1) (by omega) (Nat.le_of_eq (Nat.zero_add _)) (Nat.le_of_eq (Nat.zero_add _)) ?_
        obtain ⟨I4, hI4⟩ : ∃ x, x = u2 I 765 0 (I 765 0 + nI 1) := ⟨_, rfl⟩
        rw [← hI4]
        refine Run.ret (some (.int ((-32 : Int32)))) d_M_path_39 ⟨_, rfl⟩ ?_
        exact RQ.bad 0 (by unfold o_path; rw [hob]) (by decide) FrS.rf hI4
      · refine r_iload (pc2 := 22) d_M_path_20 rfl rfl ?_
        refine r_i2l (pc2 := 23) d_M_path_22 rfl ?_
        refine r_lconst (v := (0 : Int64)) (pc2 := 24) d_M_path_23 rfl (by decide) ?_
        refine r_ldc2 (pc2 := 27) d_M_path_24 rfl k_M_210 ?_
        refine q_calls (M2 := mi_M_in) (pc2 := 30) d_M_path_27 rfl k_M_68 cm_M_in cs_M_in rfl rfl (Nat.le_of_ble_eq_true rfl) (c_M_in (A := k.toInt) (B := (0 : Int)) (C := (3 : Int)) (toInt64_toInt (rfl)) (by decide) (by decide)) (d2 := d - 1) (by omega) (Nat.le_of_eq (Nat.zero_add _)) (Nat.le_of_eq (Nat.zero_add _)) ?_
        refine q_bif_ne (tgt := 40) (pc2 := 33) d_M_path_30 rfl rfl (fun c5 => ?_) (fun c5 => ?_)
        · exfalso; omega
        · refine r_aload_n (x := some 761) (pc2 := 34) d_M_path_33 rfl rfl ?_
          refine r_bipush (v := (-32 : Int32)) (pc2 := 36) d_M_path_34 rfl (by decide) ?_
          refine q_callv (M2 := mi_M_refused) (pc2 := 39) d_M_path_36 rfl k_M_106 cm_M_refused cv_M_refused (sh_761 hS) (by decide) rfl rfl rfl (Nat.le_of_ble_eq_true rfl) (c_M_refused_0 (I := I) hS hR) (d2 := d - 1) (by omega) (Nat.le_of_eq (Nat.zero_add _)) (Nat.le_of_eq (Nat.zero_add _)) ?_
          obtain ⟨I6, hI6⟩ : ∃ x, x = u2 I 765 0 (I 765 0 + nI 1) := ⟨_, rfl⟩
          rw [← hI6]
          refine Run.ret (some (.int ((-32 : Int32)))) d_M_path_39 ⟨_, rfl⟩ ?_
          exact RQ.bad 0 (by unfold o_path; rw [hob]) (by decide) FrS.rf hI6
  | some p =>
    obtain ⟨hp, hp2, -⟩ := fst1_spec (show fst1 _ _ = some p from hob)
    refine r_aload_n (x := some 761) (pc2 := 8) d_M_path_7 rfl rfl ?_
    refine r_iload_n (pc2 := 9) d_M_path_8 rfl rfl ?_
    refine q_callv (M2 := mi_M_isFeature) (pc2 := 12) d_M_path_9 rfl k_M_72 cm_M_isFeature cv_M_isFeature (sh_761 hS) (by decide) rfl rfl rfl (Nat.le_of_ble_eq_true rfl) (c_M_isFeature (I := I) (nF := nF) (f := f) hS hR (hFc) hF12 (by omega)) (d2 := d - 1) (by omega) (Nat.le_of_eq (Nat.zero_add _)) (Nat.le_of_eq (Nat.zero_add _)) ?_
    refine q_bif_eq (tgt := 33) (pc2 := 15) d_M_path_12 rfl rfl (fun c7 => ?_) (fun c7 => ?_)
    · refine r_aload_n (x := some 761) (pc2 := 34) d_M_path_33 rfl rfl ?_
      refine r_bipush (v := (-32 : Int32)) (pc2 := 36) d_M_path_34 rfl (by decide) ?_
      refine q_callv (M2 := mi_M_refused) (pc2 := 39) d_M_path_36 rfl k_M_106 cm_M_refused cv_M_refused (sh_761 hS) (by decide) rfl rfl rfl (Nat.le_of_ble_eq_true rfl) (c_M_refused_0 (I := I) hS hR) (d2 := d - 1) (by omega) (Nat.le_of_eq (Nat.zero_add _)) (Nat.le_of_eq (Nat.zero_add _)) ?_
      obtain ⟨I8, hI8⟩ : ∃ x, x = u2 I 765 0 (I 765 0 + nI 1) := ⟨_, rfl⟩
      rw [← hI8]
      refine Run.ret (some (.int ((-32 : Int32)))) d_M_path_39 ⟨_, rfl⟩ ?_
      exact RQ.bad 0 (by unfold o_path; rw [hob]; dsimp only; split <;> first | rfl | (rw [if_neg (by omega), if_neg (by omega), if_neg (by omega), if_neg (by omega)]; done)) (by decide) FrS.rf hI8
    · refine r_iload (pc2 := 17) d_M_path_15 rfl rfl ?_
      refine q_if_lt (tgt := 33) (A := ((p : Nat) : Int)) (pc2 := 20) d_M_path_17 rfl rfl (nI_toInt (by omega)) (fun c9 => ?_) (fun c9 => ?_)
      · refine r_aload_n (x := some 761) (pc2 := 34) d_M_path_33 rfl rfl ?_
        refine r_bipush (v := (-32 : Int32)) (pc2 := 36) d_M_path_34 rfl (by decide) ?_
        refine q_callv (M2 := mi_M_refused) (pc2 := 39) d_M_path_36 rfl k_M_106 cm_M_refused cv_M_refused (sh_761 hS) (by decide) rfl rfl rfl (Nat.le_of_ble_eq_true rfl) (c_M_refused_0 (I := I) hS hR) (d2 := d - 1) (by omega) (Nat.le_of_eq (Nat.zero_add _)) (Nat.le_of_eq (Nat.zero_add _)) ?_
        obtain ⟨I10, hI10⟩ : ∃ x, x = u2 I 765 0 (I 765 0 + nI 1) := ⟨_, rfl⟩
        rw [← hI10]
        refine Run.ret (some (.int ((-32 : Int32)))) d_M_path_39 ⟨_, rfl⟩ ?_
        exact RQ.bad 0 (by unfold o_path; rw [hob]; dsimp only; split <;> first | rfl | (rw [if_neg (by omega), if_neg (by omega), if_neg (by omega), if_neg (by omega)]; done)) (by decide) FrS.rf hI10
      · refine r_iload (pc2 := 22) d_M_path_20 rfl rfl ?_
        refine r_i2l (pc2 := 23) d_M_path_22 rfl ?_
        refine r_lconst (v := (0 : Int64)) (pc2 := 24) d_M_path_23 rfl (by decide) ?_
        refine r_ldc2 (pc2 := 27) d_M_path_24 rfl k_M_210 ?_
        refine q_calls (M2 := mi_M_in) (pc2 := 30) d_M_path_27 rfl k_M_68 cm_M_in cs_M_in rfl rfl (Nat.le_of_ble_eq_true rfl) (c_M_in (A := k.toInt) (B := (0 : Int)) (C := (3 : Int)) (toInt64_toInt (rfl)) (by decide) (by decide)) (d2 := d - 1) (by omega) (Nat.le_of_eq (Nat.zero_add _)) (Nat.le_of_eq (Nat.zero_add _)) ?_
        refine q_bif_ne (tgt := 40) (pc2 := 33) d_M_path_30 rfl rfl (fun c11 => ?_) (fun c11 => ?_)
        · obtain ⟨F, hF, rfl, eF⟩ := nat_of c7
          refine r_aload_n (x := some 761) (pc2 := 41) d_M_path_40 rfl rfl ?_
          refine r_iload_n (pc2 := 42) d_M_path_41 rfl rfl ?_
          refine r_iload (pc2 := 44) d_M_path_42 rfl rfl ?_
          refine r_callv (M2 := mi_M_fresh) (pc2 := 47) d_M_path_44 rfl k_M_201 cm_M_fresh cv_M_fresh (sh_761 hS) (by decide) rfl rfl rfl (Nat.le_of_ble_eq_true rfl) (c_M_freshM hS hR hT hTn hV hnt hnk hW hrk hp (F := F) (by omega) (d := d - 1) (by omega)) (d2 := d - 1) (by omega) (Nat.le_of_eq (Nat.zero_add _)) (Nat.le_of_eq (Nat.zero_add _)) (fun r2 h2 hq2 => ?_)
          obtain ⟨K, rfl, rfl, hK, hMK, hK1, hK2, hK3⟩ := hq2
          change Run _ _ _ _ _ _ [.int ((PA I kA fA cA gA p F).1)] _ _
          have hG2 : K 762 = I 762 := hK.row (by decide) (by decide) (by decide)
          have hk_2 : K kA = I kA := hK.row (by omega) (by omega) (by omega)
          have hf_2 : K fA = I fA := hK.row (by omega) (by omega) (by omega)
          have hc_2 : K cA = I cA := hK.row (by omega) (by omega) (by omega)
          have hg_2 : K gA = I gA := hK.row (by omega) (by omega) (by omega)
          refine r_istore (pc2 := 49) d_M_path_47 rfl (Nat.le_of_ble_eq_true rfl) ?_
          refine r_aload_n (x := some 761) (pc2 := 50) d_M_path_49 rfl rfl ?_
          refine r_iconst (v := nI 0) (pc2 := 51) d_M_path_50 rfl (by decide) ?_
          refine q_putI (pc2 := 54) d_M_path_51 rfl k_M_194 (Or.inl rfl) (sh_761 hS) (Or.inl rfl) (fun I12 hI12 => ?_)
          refine r_aload_n (x := some 761) (pc2 := 55) d_M_path_54 rfl rfl ?_
          refine r_iload_n (pc2 := 56) d_M_path_55 rfl rfl ?_
          refine r_iload (pc2 := 58) d_M_path_56 rfl rfl ?_
          refine r_callv (M2 := mi_M_goes) (pc2 := 61) d_M_path_58 rfl k_M_197 cm_M_goes cv_M_goes (sh_761 hS) (by decide) rfl rfl rfl (Nat.le_of_ble_eq_true rfl) (c_M_goes hS hR hT hTn hV hnt hnk hW hrk hp _ F rfl hF I12 [] (hK.put hI12 (by unfold scr; omega)) (fun E hE hbt => by rw [rd_nk hI12 (by decide)] at hbt; rw [rd_ne hI12 (by decide), rd_ne hI12 (by decide), rd_ne hI12 (by decide)]; exact hMK E hE hbt) ⟨rd_eq hI12, fun i hi => absurd hi (by simp), fun x hx => absurd hx List.not_mem_nil⟩ List.nodup_nil (fun x hx => absurd hx List.not_mem_nil) (d - 1) (by have := (hrk F hF).1; omega)) (d2 := d - 1) (by omega) (Nat.le_of_eq (Nat.zero_add _)) (Nat.le_of_eq (Nat.zero_add _)) (fun r2 h2 hq2 => ?_)
          obtain ⟨rfl, K3, rfl, hJ3, hM3, hW3, -⟩ := hq2
          change Run _ _ _ _ _ _ [] _ _
          have hG3 : K3 762 = I 762 := hJ3.row (by decide) (by decide) (by decide)
          have hk_3 : K3 kA = I kA := hJ3.row (by omega) (by omega) (by omega)
          have hf_3 : K3 fA = I fA := hJ3.row (by omega) (by omega) (by omega)
          have hc_3 : K3 cA = I cA := hJ3.row (by omega) (by omega) (by omega)
          have hg_3 : K3 gA = I gA := hJ3.row (by omega) (by omega) (by omega)
          obtain ⟨⟨hpn, hpl, -, -⟩, -⟩ := pth_inv (A := PA I kA fA cA gA p) hrk (rk F) F rfl hF 12 (hrk F hF).1 [] List.nodup_nil (fun x hx => absurd hx List.not_mem_nil)
          obtain ⟨l, hl⟩ : ∃ l, l = pth (I 762) (PA I kA fA cA gA p) 12 F [] := ⟨_, rfl⟩
          rw [← hl] at hpn hpl hW3
          have hlen := nodup_len nF l hpn hpl
          refine r_iload_n (pc2 := 62) d_M_path_61 rfl rfl ?_
          refine r_i2l (pc2 := 63) d_M_path_62 rfl ?_
          refine r_lconst (v := (0 : Int64)) (pc2 := 64) d_M_path_63 rfl (by decide) ?_
          refine r_aload_n (x := some 761) (pc2 := 65) d_M_path_64 rfl rfl ?_
          refine q_getI (x := nI l.length) (pc2 := 68) d_M_path_65 rfl k_M_194 (by decide) (sh_761 hS) hW3.1 ?_
          refine r_iconst (v := nI 1) (pc2 := 69) d_M_path_68 rfl (by decide) ?_
          refine r_isub (pc2 := 70) d_M_path_69 rfl ?_
          refine r_i2l (pc2 := 71) d_M_path_70 rfl ?_
          refine q_calls (M2 := mi_M_in) (pc2 := 74) d_M_path_71 rfl k_M_68 cm_M_in cs_M_in rfl rfl (Nat.le_of_ble_eq_true rfl) (c_M_in (A := i.toInt) (B := (0 : Int)) (C := ((l.length : Nat) : Int) - ((1 : Nat) : Int)) (toInt64_toInt (rfl)) (by decide) (toInt64_toInt (nI_sub_toInt (by omega) (by omega)))) (d2 := d - 1) (by omega) (Nat.le_of_eq (Nat.zero_add _)) (Nat.le_of_eq (Nat.zero_add _)) ?_
          refine q_bif_ne (tgt := 84) (pc2 := 77) d_M_path_74 rfl rfl (fun c13 => ?_) (fun c13 => ?_)
          · obtain ⟨i, hi, rfl, ei⟩ := nat_of (n := l.length) (show 0 ≤ i.toInt ∧ i.toInt < (l.length : Int) by omega)
            have hxl : l.getD i 0 ∈ l := mem_getD.mpr ⟨i, hi, rfl⟩
            have hxF := hpl _ hxl
            have hxm := hM3 _ hxF (hW3.2.2 _ hxl)
            obtain ⟨x, hx⟩ : ∃ x, x = l.getD i 0 := ⟨_, rfl⟩
            have hwx := hW3.2.1 i hi
            rw [← hx] at hxl hxF hxm hwx
            refine r_aload_n (x := some 761) (pc2 := 85) d_M_path_84 rfl rfl ?_
            refine q_getR (x := some 775) (pc2 := 88) d_M_path_85 rfl k_M_49 rfl (sh_761 hS) (rf_761_21 hR) ?_
            refine r_iload_n (pc2 := 89) d_M_path_88 rfl rfl ?_
            refine q_iaload (q := i) (x := nI x) (pc2 := 90) d_M_path_89 rfl (sh_775 hS) (nI_toInt (by omega)) (by omega) hwx ?_
            refine r_istore (pc2 := 92) d_M_path_90 rfl (Nat.le_of_ble_eq_true rfl) ?_
            refine r_iload (pc2 := 94) d_M_path_92 rfl rfl ?_
            refine q_if_ne (tgt := 102) (A := k.toInt) (pc2 := 97) d_M_path_94 rfl rfl (rfl) (fun c14 => ?_) (fun c14 => ?_)
            · refine r_iload (pc2 := 104) d_M_path_102 rfl rfl ?_
              refine r_iconst (v := nI 1) (pc2 := 105) d_M_path_104 rfl (by decide) ?_
              refine q_icmp_ne (tgt := 118) (A := k.toInt) (B := (1 : Int)) (pc2 := 108) d_M_path_105 rfl rfl (rfl) (nI_toInt (by omega)) (fun c15 => ?_) (fun c15 => ?_)
              · refine r_iload (pc2 := 120) d_M_path_118 rfl rfl ?_
                refine r_iconst (v := nI 2) (pc2 := 121) d_M_path_120 rfl (by decide) ?_
                refine q_icmp_ne (tgt := 134) (A := k.toInt) (B := (2 : Int)) (pc2 := 124) d_M_path_121 rfl rfl (rfl) (nI_toInt (by omega)) (fun c16 => ?_) (fun c16 => ?_)
                · refine r_aload_n (x := some 761) (pc2 := 135) d_M_path_134 rfl rfl ?_
                  refine q_getR (x := some 772) (pc2 := 138) d_M_path_135 rfl k_M_40 rfl (sh_761 hS) (rf_761_17 hR) ?_
                  refine r_iload (pc2 := 140) d_M_path_138 rfl rfl ?_
                  refine q_iaload (q := x) (x := (PA I kA fA cA gA p x).1) (pc2 := 141) d_M_path_140 rfl (sh_772 hS) (nI_toInt (by omega)) (by omega) hxm.1 ?_
                  refine Run.ret (some (.int ((PA I kA fA cA gA p x).1))) d_M_path_141 ⟨_, rfl⟩ ?_
                  exact RQ.val (by unfold o_path; rw [hob]; dsimp only; rw [eF, Int.toNat_natCast, ← hl, if_pos (by omega), ei, Int.toNat_natCast, ← hx]; rw [if_neg (by omega), if_neg (by omega), if_neg (by omega), if_pos (by omega)]) hJ3
                · refine r_aload_n (x := some 761) (pc2 := 125) d_M_path_124 rfl rfl ?_
                  refine q_getR (x := some 774) (pc2 := 128) d_M_path_125 rfl k_M_46 rfl (sh_761 hS) (rf_761_19 hR) ?_
                  refine r_iload (pc2 := 130) d_M_path_128 rfl rfl ?_
                  refine q_iaload (q := x) (x := (PA I kA fA cA gA p x).2.2) (pc2 := 131) d_M_path_130 rfl (sh_774 hS) (nI_toInt (by omega)) (by omega) hxm.2.2 ?_
                  refine r_goto (tgt := 141) d_M_path_131 rfl ?_
                  refine Run.ret (some (.int ((PA I kA fA cA gA p x).2.2))) d_M_path_141 ⟨_, rfl⟩ ?_
                  exact RQ.val (by unfold o_path; rw [hob]; dsimp only; rw [eF, Int.toNat_natCast, ← hl, if_pos (by omega), ei, Int.toNat_natCast, ← hx]; rw [if_neg (by omega), if_neg (by omega), if_pos (by omega)]) hJ3
              · refine r_aload_n (x := some 761) (pc2 := 109) d_M_path_108 rfl rfl ?_
                refine q_getR (x := some 773) (pc2 := 112) d_M_path_109 rfl k_M_43 rfl (sh_761 hS) (rf_761_18 hR) ?_
                refine r_iload (pc2 := 114) d_M_path_112 rfl rfl ?_
                refine q_iaload (q := x) (x := (PA I kA fA cA gA p x).2.1) (pc2 := 115) d_M_path_114 rfl (sh_773 hS) (nI_toInt (by omega)) (by omega) hxm.2.1 ?_
                refine r_goto (tgt := 141) d_M_path_115 rfl ?_
                refine Run.ret (some (.int ((PA I kA fA cA gA p x).2.1))) d_M_path_141 ⟨_, rfl⟩ ?_
                exact RQ.val (by unfold o_path; rw [hob]; dsimp only; rw [eF, Int.toNat_natCast, ← hl, if_pos (by omega), ei, Int.toNat_natCast, ← hx]; rw [if_neg (by omega), if_pos (by omega)]) hJ3
            · refine r_iload (pc2 := 99) d_M_path_97 rfl rfl ?_
              refine r_goto (tgt := 141) d_M_path_99 rfl ?_
              refine Run.ret (some (.int (nI x))) d_M_path_141 ⟨_, rfl⟩ ?_
              exact RQ.val (by unfold o_path; rw [hob]; dsimp only; rw [eF, Int.toNat_natCast, ← hl, if_pos (by omega), ei, Int.toNat_natCast, ← hx]; rw [if_pos (by omega)]) hJ3
          · refine r_aload_n (x := some 761) (pc2 := 78) d_M_path_77 rfl rfl ?_
            refine r_bipush (v := (-32 : Int32)) (pc2 := 80) d_M_path_78 rfl (by decide) ?_
            refine q_callv (M2 := mi_M_refused) (pc2 := 83) d_M_path_80 rfl k_M_106 cm_M_refused cv_M_refused (sh_761 hS) (by decide) rfl rfl rfl (Nat.le_of_ble_eq_true rfl) (c_M_refused_0 (I := K3) hS hR) (d2 := d - 1) (by omega) (Nat.le_of_eq (Nat.zero_add _)) (Nat.le_of_eq (Nat.zero_add _)) ?_
            obtain ⟨I17, hI17⟩ : ∃ x, x = u2 K3 765 0 (K3 765 0 + nI 1) := ⟨_, rfl⟩
            rw [← hI17]
            refine Run.ret (some (.int ((-32 : Int32)))) d_M_path_83 ⟨_, rfl⟩ ?_
            exact RQ.bad 0 (by unfold o_path; rw [hob]; dsimp only; rw [eF, Int.toNat_natCast, ← hl, if_neg (by omega)]) (by decide) hJ3 hI17
        · refine r_aload_n (x := some 761) (pc2 := 34) d_M_path_33 rfl rfl ?_
          refine r_bipush (v := (-32 : Int32)) (pc2 := 36) d_M_path_34 rfl (by decide) ?_
          refine q_callv (M2 := mi_M_refused) (pc2 := 39) d_M_path_36 rfl k_M_106 cm_M_refused cv_M_refused (sh_761 hS) (by decide) rfl rfl rfl (Nat.le_of_ble_eq_true rfl) (c_M_refused_0 (I := I) hS hR) (d2 := d - 1) (by omega) (Nat.le_of_eq (Nat.zero_add _)) (Nat.le_of_eq (Nat.zero_add _)) ?_
          obtain ⟨I18, hI18⟩ : ∃ x, x = u2 I 765 0 (I 765 0 + nI 1) := ⟨_, rfl⟩
          rw [← hI18]
          refine Run.ret (some (.int ((-32 : Int32)))) d_M_path_39 ⟨_, rfl⟩ ?_
          exact RQ.bad 0 (by unfold o_path; rw [hob]; dsimp only; split <;> first | rfl | (rw [if_neg (by omega), if_neg (by omega), if_neg (by omega), if_neg (by omega)]; done)) (by decide) FrS.rf hI18
