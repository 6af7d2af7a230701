/-! THE REFERENCE: layers, sums, images, the tape -/
theorem fst1_ex {P : Nat → Bool} {i : Nat} (h : P i = true) : ∀ {n : Nat}, i < n → ∃ k, fst1 P n = some k := by
  intro n hi
  cases e : fst1 P n with
  | some k => exact ⟨k, rfl⟩
  | none => exact absurd (fst1_not e i hi) (by rw [h]; decide)
/-- what a call leaves: the heap T but for scratch -/
def RQT (I : Nat → Nat → Int32) (R : Nat → Nat → Option Nat) (L : Nat → Nat → Int64) (sh : Nat → Nat × Nat) (N : Nat) (x : Out) (T : Nat → Nat → Int32) : Option Value → HS → Prop :=
  fun r h' => ∃ K, h' = (K, R, L, sh, N) ∧ r = some (.int (ansOf x)) ∧ FrS (match x with | .inl _ => T | .inr _ => fin1 765 I x) K
theorem RQT.val {I K T : Nat → Nat → Int32} {R : Nat → Nat → Option Nat} {L : Nat → Nat → Int64} {sh : Nat → Nat × Nat} {N : Nat} {x : Out} {v : Int32} (e : x = .inl v) (hK : FrS T K) : RQT I R L sh N x T (some (.int v)) (K, R, L, sh, N) := by
  subst e; exact ⟨K, rfl, rfl, hK⟩
theorem RQT.bad {I J K T : Nat → Nat → Int32} {R : Nat → Nat → Option Nat} {L : Nat → Nat → Int64} {sh : Nat → Nat × Nat} {N : Nat} {x : Out} {v : Int32} (j : Nat) (e : x = .inr j) (hv : v = Int32.ofInt (-32 - (j : Int))) (hJ : FrS I J) (hK : K = u2 J 765 j (J 765 j + nI 1)) : RQT I R L sh N x T (some (.int v)) (K, R, L, sh, N) := by
  obtain ⟨K2, h1, h2, h3⟩ := RQ.bad (R := R) (L := L) (sh := sh) (N := N) j e hv hJ hK
  subst e
  exact ⟨K2, h1, h2, h3⟩
def cpy (I : Nat → Nat → Int32) (a b k : Nat) : Nat → Nat → Int32 := fun x j => if x = b ∧ j < k then I a j else I x j
theorem cpy_s {I : Nat → Nat → Int32} {a b k : Nat} (h : a ≠ b) : u2 (cpy I a b k) b k (I a k) = cpy I a b (k + 1) := by
  funext x j
  unfold u2 cpy
  by_cases e : x = b ∧ j = k
  · rw [if_pos e, if_pos ⟨e.1, by omega⟩, e.2]
  · rw [if_neg e]
    by_cases e2 : x = b ∧ j < k
    · rw [if_pos e2, if_pos ⟨e2.1, by omega⟩]
    · rw [if_neg e2, if_neg (fun z => by
        rcases Nat.lt_or_ge j k with q | q
        · exact e2 ⟨z.1, q⟩
        · exact e ⟨z.1, by omega⟩)]
theorem cpy_a {I : Nat → Nat → Int32} {a b k x j : Nat} (h : x ≠ b) : cpy I a b k x j = I x j := if_neg (fun z => h z.1)
theorem cpy_r {I : Nat → Nat → Int32} {a b k x : Nat} (h : x ≠ b) : cpy I a b k x = I x := funext fun j => cpy_a h
theorem cpy_0 {I : Nat → Nat → Int32} {a b : Nat} : cpy I a b 0 = I := by
  funext x j; exact if_neg (fun z => by omega)
theorem cpy_b {I : Nat → Nat → Int32} {a b k j : Nat} (h : j < k) : cpy I a b k b j = I a j := if_pos ⟨rfl, h⟩
def keptP (G : Nat → Int32) (F p : Nat) : Bool := decide (0 < (G (174 + 84 * F + (36 + p))).toInt)
def smN (f : Nat → Nat) : Nat → Nat
  | 0 => 0
  | n + 1 => smN f n + f n
theorem smN_s {f : Nat → Nat} {n : Nat} : smN f (n + 1) = smN f n + f n := rfl
def o_forget (G : Nat → Int32) (nP nF : Nat) (f : Int32) : Out := if (0 ≤ f.toInt ∧ f.toInt < (nF : Int)) then .inl (nI (cnt (keptP G f.toInt.toNat) nP)) else .inr 0
def g_forget (G : Nat → Int32) (nF : Nat) (f : Int32) : Nat → Int32 := if (0 ≤ f.toInt ∧ f.toInt < (nF : Int)) then fil G (174 + 84 * f.toInt.toNat + (36 + 0)) (174 + 84 * f.toInt.toNat + (36 + 24)) (nI 0) else G
def o_featureOf (G : Nat → Int32) (nP nF : Nat) (f k : Int32) : Out := if (0 ≤ f.toInt ∧ f.toInt < (nF : Int)) ∧ 0 ≤ k.toInt ∧ k.toInt ≤ 9 then
    (if k.toInt = 8 then (if (G (174 + 84 * f.toInt.toNat + 7)).toInt < 0 then .inl (nI 0) else .inl (G (174 + 84 * f.toInt.toNat + 9) - G (174 + 84 * f.toInt.toNat + 8) + nI 1))
     else if k.toInt = 9 then .inl (nI (cnt (keptP G f.toInt.toNat) nP)) else .inl (G (174 + 84 * f.toInt.toNat + k.toInt.toNat))) else .inr 0
def o_status (G : Nat → Int32) (nP nF : Nat) (tp : Int32) (hl : Nat) (rf : Nat → Int32) (k : Int32) : Out :=
  if k.toInt = 0 then .inl (nI nP) else if k.toInt = 1 then .inl (nI nF) else if k.toInt = 2 then .inl (nI (smN (nRof G) nF)) else if k.toInt = 3 then .inl (nI (smN (nNof G) nF)) else if k.toInt = 4 then .inl (G 2) else if k.toInt = 5 then .inl (G 3)
  else if k.toInt = 6 then .inl (nI (smN (fun F => cnt (keptP G F) nP) nF)) else if k.toInt = 7 then .inl (G 4) else if k.toInt = 8 then .inl tp else if k.toInt = 9 then .inl (G 5) else if k.toInt = 10 then .inl (nI hl) else if 12 ≤ k.toInt ∧ k.toInt ≤ 16 then .inl (rf (k.toInt.toNat - 12)) else .inl (-1)
def o_feed (tp v : Int32) : Out := if 0 ≤ v.toInt ∧ v.toInt ≤ 255 then (if tp.toInt = 250 then .inr 4 else .inl (tp + nI 1)) else .inr 0
def o_back (b : Int32) : Out := if b.toInt = 0 then .inr 3 else .inl (nI 1)
theorem l_M_keptMany {d : Nat} {I : Nat → Nat → Int32} {R : Nat → Nat → Option Nat} {L : Nat → Nat → Int64} {sh : Nat → Nat × Nat} {N : Nat} (hS : ShOK sh) (hR : RfOK R) {nP : Nat} (hPc : I 762 0 = nI nP) (hP24 : nP ≤ 24) {F : Nat} (hF : F < 12) {P : Nat → Bool} (hP : ∀ p, P p = decide (0 < (I 762 (174 + 84 * F + (36 + p))).toInt)) {Q : Option Value → HS → Prop} (hq : Q (some (.int (nI (cnt P nP)))) (I, R, L, sh, N)) (hd : 1 ≤ d) : ∀ (n_ : Nat) (i : Nat), nP - i = n_ → (i ≤ nP) → Run mi_M_keptMany d 0 0 4 [(0, .ref 761), (1, .int (nI F)), (2, .int (nI (cnt P i))), (3, .int (nI i))] [] (I, R, L, sh, N) Q := by
  intro n_
  induction n_ using Nat.strongRecOn with | ind n_ ih_ => ?_
  intro i hn_ v0_
  refine r_iload_n (pc2 := 5) d_M_keptMany_4 rfl rfl ?_
  refine r_aload_n (x := some 761) (pc2 := 6) d_M_keptMany_5 rfl rfl ?_
  refine q_getR (x := some 762) (pc2 := 9) d_M_keptMany_6 rfl k_M_9 rfl (sh_761 hS) (rf_761_0 hR) ?_
  refine r_iconst (v := nI 0) (pc2 := 10) d_M_keptMany_9 rfl (by decide) ?_
  refine q_iaload (q := 0) (x := nI nP) (pc2 := 11) d_M_keptMany_10 rfl (sh_762 hS) (nI_toInt (by omega)) (by omega) hPc ?_
  refine q_icmp_ge (tgt := 40) (A := ((i : Nat) : Int)) (B := ((nP : Nat) : Int)) (pc2 := 14) d_M_keptMany_11 rfl rfl (nI_toInt (by omega)) (nI_toInt (by omega)) (fun c1 => ?_) (fun c1 => ?_)
  · refine r_iload_n (pc2 := 41) d_M_keptMany_40 rfl rfl ?_
    refine Run.ret (some (.int (nI (cnt P i)))) d_M_keptMany_41 ⟨_, rfl⟩ ?_
    rw [show i = nP by omega]; exact hq
  · refine r_iload_n (pc2 := 15) d_M_keptMany_14 rfl rfl ?_
    refine r_aload_n (x := some 761) (pc2 := 16) d_M_keptMany_15 rfl rfl ?_
    refine r_iload_n (pc2 := 17) d_M_keptMany_16 rfl rfl ?_
    refine r_bipush (v := nI 36) (pc2 := 19) d_M_keptMany_17 rfl (by decide) ?_
    refine r_iload_n (pc2 := 20) d_M_keptMany_19 rfl rfl ?_
    refine q_iaddN (pc2 := 21) d_M_keptMany_20 rfl ?_
    refine q_callv (M2 := mi_M_of) (pc2 := 24) d_M_keptMany_21 rfl k_M_76 cm_M_of cv_M_of (sh_761 hS) (by decide) rfl rfl rfl (Nat.le_of_ble_eq_true rfl) (c_M_of (I := I) (F := F) (W := 36 + i) hS hR (by omega)) (d2 := d - 1) (by omega) (Nat.le_of_eq (Nat.zero_add _)) (Nat.le_of_eq (Nat.zero_add _)) ?_
    refine q_if_le (tgt := 31) (A := (I 762 (174 + 84 * F + (36 + i))).toInt) (pc2 := 27) d_M_keptMany_24 rfl rfl (rfl) (fun c2 => ?_) (fun c2 => ?_)
    · refine r_iconst (v := nI 0) (pc2 := 32) d_M_keptMany_31 rfl (by decide) ?_
      refine q_iaddN (pc2 := 33) d_M_keptMany_32 rfl ?_
      refine q_top (y := nI (cnt P (i + 1))) (by rw [cnt_s, if_neg (by rw [hP]; simp only [decide_eq_true_eq]; omega)]) ?_
      refine r_istore_n (pc2 := 34) d_M_keptMany_33 rfl rfl (Nat.le_of_ble_eq_true rfl) ?_
      refine q_iinc (b := 1) (pc2 := 37) d_M_keptMany_34 rfl rfl (by decide) (Nat.le_of_ble_eq_true rfl) ?_
      refine r_goto (tgt := 4) d_M_keptMany_37 rfl ?_
      refine Run.sub (l2 := [(0, .ref 761), (1, .int (nI F)), (2, .int (nI (cnt P (i + 1)))), (3, .int (nI (i + 1)))]) ⟨rfl, rfl, rfl, rfl, trivial⟩ ?_
      exact ih_ (nP - (i + 1)) (by omega) (i + 1) rfl (by omega)
    · refine r_iconst (v := nI 1) (pc2 := 28) d_M_keptMany_27 rfl (by decide) ?_
      refine r_goto (tgt := 32) d_M_keptMany_28 rfl ?_
      refine q_iaddN (pc2 := 33) d_M_keptMany_32 rfl ?_
      refine q_top (y := nI (cnt P (i + 1))) (by rw [cnt_s, if_pos (by rw [hP]; simp only [decide_eq_true_eq]; omega)]) ?_
      refine r_istore_n (pc2 := 34) d_M_keptMany_33 rfl rfl (Nat.le_of_ble_eq_true rfl) ?_
      refine q_iinc (b := 1) (pc2 := 37) d_M_keptMany_34 rfl rfl (by decide) (Nat.le_of_ble_eq_true rfl) ?_
      refine r_goto (tgt := 4) d_M_keptMany_37 rfl ?_
      refine Run.sub (l2 := [(0, .ref 761), (1, .int (nI F)), (2, .int (nI (cnt P (i + 1)))), (3, .int (nI (i + 1)))]) ⟨rfl, rfl, rfl, rfl, trivial⟩ ?_
      exact ih_ (nP - (i + 1)) (by omega) (i + 1) rfl (by omega)
theorem c_M_keptMany {d : Nat} {I : Nat → Nat → Int32} {R : Nat → Nat → Option Nat} {L : Nat → Nat → Int64} {sh : Nat → Nat × Nat} {N : Nat} (hS : ShOK sh) (hR : RfOK R) {nP : Nat} (hPc : I 762 0 = nI nP) (hP24 : nP ≤ 24) {F : Nat} (hF : F < 12) (hd : 1 ≤ d) : Me mi_M_keptMany d 0 0 [.ref 761, .int (nI F)] (I, R, L, sh, N) (some (.int (nI (cnt (keptP (I 762) F) nP)))) (I, R, L, sh, N) := by
  refine Mt.of pn_M (Nat.le_of_ble_eq_true rfl) ?_
  show Run mi_M_keptMany d 0 0 0 [(0, .ref 761), (1, .int (nI F))] [] (I, R, L, sh, N) _
  refine r_iconst (v := nI 0) (pc2 := 1) d_M_keptMany_0 rfl (by decide) ?_
  refine r_istore_n (pc2 := 2) d_M_keptMany_1 rfl rfl (Nat.le_of_ble_eq_true rfl) ?_
  refine r_iconst (v := nI 0) (pc2 := 3) d_M_keptMany_2 rfl (by decide) ?_
  refine r_istore_n (pc2 := 4) d_M_keptMany_3 rfl rfl (Nat.le_of_ble_eq_true rfl) ?_
  refine Run.sub (l2 := [(0, .ref 761), (1, .int (nI F)), (2, .int (nI 0)), (3, .int (nI 0))]) ⟨rfl, rfl, rfl, rfl, trivial⟩ ?_
  exact l_M_keptMany hS hR hPc hP24 hF (P := keptP (I 762) F) (fun p => rfl) ⟨rfl, rfl⟩ hd _ 0 rfl (by omega)
theorem l_M_forget {d : Nat} {I : Nat → Nat → Int32} {R : Nat → Nat → Option Nat} {L : Nat → Nat → Int64} {sh : Nat → Nat × Nat} {N : Nat} (hS : ShOK sh) (hR : RfOK R) {F : Nat} (hF : F < 12) {n : Int32} (hd : 1 ≤ d) {Q : Option Value → HS → Prop} (hk : ∀ J, FrS (setR I 762 (fil (I 762) (174 + 84 * F + (36 + 0)) (174 + 84 * F + (36 + 24)) (nI 0))) J → Run mi_M_forget d 0 0 45 [(0, .ref 761), (1, .int (nI F)), (2, .int n)] [] (J, R, L, sh, N) Q) : ∀ (n_ : Nat) (i : Nat) (J : Nat → Nat → Int32), 24 - i = n_ → (FrS (setR I 762 (fil (I 762) (174 + 84 * F + (36 + 0)) (174 + 84 * F + (36 + i)) (nI 0))) J) → (i ≤ 24) → Run mi_M_forget d 0 0 23 [(0, .ref 761), (1, .int (nI F)), (2, .int n), (3, .int (nI i))] [] (J, R, L, sh, N) Q := by
  intro n_
  induction n_ using Nat.strongRecOn with | ind n_ ih_ => ?_
  intro i J hn_ v0_ v1_
  refine r_iload_n (pc2 := 24) d_M_forget_23 rfl rfl ?_
  refine r_bipush (v := nI 24) (pc2 := 26) d_M_forget_24 rfl (by decide) ?_
  refine q_icmp_ge (tgt := 45) (A := ((i : Nat) : Int)) (B := (24 : Int)) (pc2 := 29) d_M_forget_26 rfl rfl (nI_toInt (by omega)) (nI_toInt (by omega)) (fun c1 => ?_) (fun c1 => ?_)
  · refine Run.sub (l2 := [(0, .ref 761), (1, .int (nI F)), (2, .int n)]) ⟨rfl, rfl, rfl, trivial⟩ ?_
    exact hk J (by rw [show i = 24 by omega] at v0_; exact v0_)
  · refine r_aload_n (x := some 761) (pc2 := 30) d_M_forget_29 rfl rfl ?_
    refine r_iload_n (pc2 := 31) d_M_forget_30 rfl rfl ?_
    refine r_bipush (v := nI 36) (pc2 := 33) d_M_forget_31 rfl (by decide) ?_
    refine r_iload_n (pc2 := 34) d_M_forget_33 rfl rfl ?_
    refine q_iaddN (pc2 := 35) d_M_forget_34 rfl ?_
    refine r_iconst (v := nI 0) (pc2 := 36) d_M_forget_35 rfl (by decide) ?_
    refine q_callvV (M2 := mi_M_is) (pc2 := 39) d_M_forget_36 rfl k_M_157 cm_M_is cv_M_is (sh_761 hS) (by decide) rfl rfl rfl (Nat.le_of_ble_eq_true rfl) (c_M_is (I := J) (F := F) (W := 36 + i) (v := nI 0) hS hR (by omega)) (d2 := d - 1) (by omega) (Nat.le_of_eq (Nat.zero_add _)) (Nat.le_of_eq (Nat.zero_add _)) ?_
    obtain ⟨I2, hI2⟩ : ∃ x, x = u2 J 762 (174 + 84 * F + (36 + i)) (nI 0) := ⟨_, rfl⟩
    rw [← hI2]
    refine q_iinc (b := 1) (pc2 := 42) d_M_forget_39 rfl rfl (by decide) (Nat.le_of_ble_eq_true rfl) ?_
    refine r_goto (tgt := 23) d_M_forget_42 rfl ?_
    refine Run.sub (l2 := [(0, .ref 761), (1, .int (nI F)), (2, .int n), (3, .int (nI (i + 1)))]) ⟨rfl, rfl, rfl, rfl, trivial⟩ ?_
    exact ih_ (24 - (i + 1)) (by omega) (i + 1) I2 rfl (setR_fil v0_ hI2 (by omega) (by omega)) (by omega)
theorem c_M_forget {d : Nat} {I : Nat → Nat → Int32} {R : Nat → Nat → Option Nat} {L : Nat → Nat → Int64} {sh : Nat → Nat × Nat} {N : Nat} (hS : ShOK sh) (hR : RfOK R) {kA fA cA gA nk nt : Nat} (hT : TRf R sh kA fA cA gA nk) (hTn : TNe kA fA cA gA) (hV : TV (I kA) (I fA) (I cA) nt) (hnt : nt ≤ nk) (hnk : nk ≤ 1000000) {nP nF : Nat} (hW : WFA (I 762) nP nF nt) {rk : Nat → Nat} (hrk : RK (I 762) nF rk) {f : Int32} (hd : nt + 60 ≤ d) : Mt mi_M_forget d 0 0 [.ref 761, .int f] (I, R, L, sh, N) (RQW I R L sh N (o_forget (I 762) nP nF f) (g_forget (I 762) nF f)) := by
  obtain ⟨hPc, hP24, hFc, hF12, hWF, hWP⟩ := id hW
  obtain ⟨hn1, hn2, hn3, hn4⟩ := id hTn
  refine Mt.of pn_M (Nat.le_of_ble_eq_true rfl) ?_
  show Run mi_M_forget d 0 0 0 [(0, .ref 761), (1, .int f)] [] (I, R, L, sh, N) _
  refine r_aload_n (x := some 761) (pc2 := 1) d_M_forget_0 rfl rfl ?_
  refine r_iload_n (pc2 := 2) d_M_forget_1 rfl rfl ?_
  refine q_callv (M2 := mi_M_isFeature) (pc2 := 5) d_M_forget_2 rfl k_M_72 cm_M_isFeature cv_M_isFeature (sh_761 hS) (by decide) rfl rfl rfl (Nat.le_of_ble_eq_true rfl) (c_M_isFeature (I := I) (nF := nF) (f := f) hS hR (hFc) hF12 (by omega)) (d2 := d - 1) (by omega) (Nat.le_of_eq (Nat.zero_add _)) (Nat.le_of_eq (Nat.zero_add _)) ?_
  refine q_bif_ne (tgt := 15) (pc2 := 8) d_M_forget_5 rfl rfl (fun c1 => ?_) (fun c1 => ?_)
  · obtain ⟨fN, hfN, rfl, efN⟩ := nat_of c1
    obtain ⟨tpfN, klfN, skfN, fbfN, nRfN, nNfN, nOfN, frfN, tofN, ⟨a0fN, b0fN, cc0fN, dd0fN⟩, ⟨a1fN, b1fN, cc1fN, dd1fN⟩, ⟨a2fN, b2fN, cc2fN, dd2fN⟩, ⟨a3fN, b3fN, cc3fN, dd3fN⟩, ⟨a4fN, b4fN, cc4fN, dd4fN⟩, ⟨a5fN, b5fN, cc5fN, dd5fN⟩, ⟨a6fN, b6fN, cc6fN, dd6fN⟩, ⟨a8fN, b8fN, cc8fN, dd8fN⟩, ⟨a9fN, b9fN, cc9fN, dd9fN⟩⟩ := wfn (hWF fN hfN)
    obtain ⟨-, -, -, -, -, -, -, w7fN, -, -, wNfN, wRfN, wKfN, wOfN⟩ := hWF fN hfN
    refine r_aload_n (x := some 761) (pc2 := 16) d_M_forget_15 rfl rfl ?_
    refine r_iload_n (pc2 := 17) d_M_forget_16 rfl rfl ?_
    refine q_callv (M2 := mi_M_keptMany) (pc2 := 20) d_M_forget_17 rfl k_M_260 cm_M_keptMany cv_M_keptMany (sh_761 hS) (by decide) rfl rfl rfl (Nat.le_of_ble_eq_true rfl) (c_M_keptMany (F := fN) hS hR hPc hP24 (by omega) (by omega)) (d2 := d - 1) (by omega) (Nat.le_of_eq (Nat.zero_add _)) (Nat.le_of_eq (Nat.zero_add _)) ?_
    refine r_istore_n (pc2 := 21) d_M_forget_20 rfl rfl (Nat.le_of_ble_eq_true rfl) ?_
    refine r_iconst (v := nI 0) (pc2 := 22) d_M_forget_21 rfl (by decide) ?_
    refine r_istore_n (pc2 := 23) d_M_forget_22 rfl rfl (Nat.le_of_ble_eq_true rfl) ?_
    refine Run.sub (l2 := [(0, .ref 761), (1, .int (nI fN)), (2, .int (nI (cnt (keptP (I 762) fN) nP))), (3, .int (nI 0))]) ⟨rfl, rfl, rfl, rfl, trivial⟩ ?_
    refine l_M_forget hS hR (F := fN) (n := nI (cnt (keptP (I 762) fN) nP)) (by omega) (by omega) (hk := fun J2 hJ2 => ?_) _ 0 I rfl (by rw [fil_0]; exact FrS.rf.set) (by omega)
    have hGJ2 := hJ2.row2
    refine r_iload_n (pc2 := 46) d_M_forget_45 rfl rfl ?_
    refine Run.ret (some (.int (nI (cnt (keptP (I 762) fN) nP)))) d_M_forget_46 ⟨_, rfl⟩ ?_
    exact RQW.val (by (try simp only [efN, b0fN, b1fN, b2fN, b3fN, b4fN, b5fN, b6fN, b8fN, b9fN, Int.toNat_natCast] at c1); (unfold o_forget); (try dsimp only); (try simp only [efN, b0fN, b1fN, b2fN, b3fN, b4fN, b5fN, b6fN, b8fN, b9fN, Int.toNat_natCast]); (repeat (first | rw [if_pos (by omega)] | rw [if_neg (by omega)])); (try rfl); (all_goals first | rfl | (simp only [a0fN, a1fN, a2fN, a3fN, a4fN, a5fN, a6fN, a8fN, a9fN]; done) | (congr 2; omega) | ((repeat' split) <;> first | rfl | (simp only [a0fN, a1fN, a2fN, a3fN, a4fN, a5fN, a6fN, a8fN, a9fN]; done) | (exfalso; omega) | (congr 2; omega) | skip))) (by (try simp only [efN, b0fN, b1fN, b2fN, b3fN, b4fN, b5fN, b6fN, b8fN, b9fN, Int.toNat_natCast] at c1); (unfold g_forget); (try dsimp only); (try simp only [efN, b0fN, b1fN, b2fN, b3fN, b4fN, b5fN, b6fN, b8fN, b9fN, Int.toNat_natCast]); (repeat (first | rw [if_pos (by omega)] | rw [if_neg (by omega)])); exact hJ2)
  · refine r_aload_n (x := some 761) (pc2 := 9) d_M_forget_8 rfl rfl ?_
    refine r_bipush (v := (-32 : Int32)) (pc2 := 11) d_M_forget_9 rfl (by decide) ?_
    refine q_callv (M2 := mi_M_refused) (pc2 := 14) d_M_forget_11 rfl k_M_106 cm_M_refused cv_M_refused (sh_761 hS) (by decide) rfl rfl rfl (Nat.le_of_ble_eq_true rfl) (c_M_refused_0 (I := I) hS hR) (d2 := d - 1) (by omega) (Nat.le_of_eq (Nat.zero_add _)) (Nat.le_of_eq (Nat.zero_add _)) ?_
    obtain ⟨I3, hI3⟩ : ∃ x, x = u2 I 765 0 (I 765 0 + nI 1) := ⟨_, rfl⟩
    rw [← hI3]
    refine Run.ret (some (.int ((-32 : Int32)))) d_M_forget_14 ⟨_, rfl⟩ ?_
    exact RQW.bad 0 (by (unfold o_forget); (try dsimp only); (try simp only [Int.toNat_natCast]); (repeat (first | rw [if_pos (by omega)] | rw [if_neg (by omega)])); (try rfl); (all_goals first | rfl | (congr 2; omega) | ((repeat' split) <;> first | rfl | (exfalso; omega) | (congr 2; omega) | skip)); (try rfl)) (by (unfold g_forget); (try dsimp only); (try simp only [Int.toNat_natCast]); (repeat (first | rw [if_pos (by omega)] | rw [if_neg (by omega)])); (try rfl); (all_goals first | rfl | (congr 2; omega) | ((repeat' split) <;> first | rfl | (exfalso; omega) | (congr 2; omega) | skip)); (try rfl)) (by decide) FrS.rf hI3
theorem c_M_featureOf {d : Nat} {I : Nat → Nat → Int32} {R : Nat → Nat → Option Nat} {L : Nat → Nat → Int64} {sh : Nat → Nat × Nat} {N : Nat} (hS : ShOK sh) (hR : RfOK R) {kA fA cA gA nk nt : Nat} (hT : TRf R sh kA fA cA gA nk) (hTn : TNe kA fA cA gA) (hV : TV (I kA) (I fA) (I cA) nt) (hnt : nt ≤ nk) (hnk : nk ≤ 1000000) {nP nF : Nat} (hW : WFA (I 762) nP nF nt) {rk : Nat → Nat} (hrk : RK (I 762) nF rk) {f : Int32} {k : Int32} (hd : nt + 60 ≤ d) : Mt mi_M_featureOf d 0 0 [.ref 761, .int f, .int k] (I, R, L, sh, N) (RQ I R L sh N (o_featureOf (I 762) nP nF f k)) := by
  obtain ⟨hPc, hP24, hFc, hF12, hWF, hWP⟩ := id hW
  obtain ⟨hn1, hn2, hn3, hn4⟩ := id hTn
  refine Mt.of pn_M (Nat.le_of_ble_eq_true rfl) ?_
  show Run mi_M_featureOf d 0 0 0 [(0, .ref 761), (1, .int f), (2, .int k)] [] (I, R, L, sh, N) _
  refine r_aload_n (x := some 761) (pc2 := 1) d_M_featureOf_0 rfl rfl ?_
  refine r_iload_n (pc2 := 2) d_M_featureOf_1 rfl rfl ?_
  refine q_callv (M2 := mi_M_isFeature) (pc2 := 5) d_M_featureOf_2 rfl k_M_72 cm_M_isFeature cv_M_isFeature (sh_761 hS) (by decide) rfl rfl rfl (Nat.le_of_ble_eq_true rfl) (c_M_isFeature (I := I) (nF := nF) (f := f) hS hR (hFc) hF12 (by omega)) (d2 := d - 1) (by omega) (Nat.le_of_eq (Nat.zero_add _)) (Nat.le_of_eq (Nat.zero_add _)) ?_
  refine q_bif_eq (tgt := 20) (pc2 := 8) d_M_featureOf_5 rfl rfl (fun c1 => ?_) (fun c1 => ?_)
  · refine r_aload_n (x := some 761) (pc2 := 21) d_M_featureOf_20 rfl rfl ?_
    refine r_bipush (v := (-32 : Int32)) (pc2 := 23) d_M_featureOf_21 rfl (by decide) ?_
    refine q_callv (M2 := mi_M_refused) (pc2 := 26) d_M_featureOf_23 rfl k_M_106 cm_M_refused cv_M_refused (sh_761 hS) (by decide) rfl rfl rfl (Nat.le_of_ble_eq_true rfl) (c_M_refused_0 (I := I) hS hR) (d2 := d - 1) (by omega) (Nat.le_of_eq (Nat.zero_add _)) (Nat.le_of_eq (Nat.zero_add _)) ?_
    obtain ⟨I2, hI2⟩ : ∃ x, x = u2 I 765 0 (I 765 0 + nI 1) := ⟨_, rfl⟩
    rw [← hI2]
    refine Run.ret (some (.int ((-32 : Int32)))) d_M_featureOf_26 ⟨_, rfl⟩ ?_
    exact RQ.bad 0 (by (unfold o_featureOf); (try dsimp only); (try simp only [Int.toNat_natCast]); (repeat (first | rw [if_pos (by omega)] | rw [if_neg (by omega)])); (try rfl); (all_goals first | rfl | (congr 2; omega) | ((repeat' split) <;> first | rfl | (exfalso; omega) | (congr 2; omega) | skip)); (try rfl)) (by decide) FrS.rf hI2
  · obtain ⟨fN, hfN, rfl, efN⟩ := nat_of c1
    obtain ⟨tpfN, klfN, skfN, fbfN, nRfN, nNfN, nOfN, frfN, tofN, ⟨a0fN, b0fN, cc0fN, dd0fN⟩, ⟨a1fN, b1fN, cc1fN, dd1fN⟩, ⟨a2fN, b2fN, cc2fN, dd2fN⟩, ⟨a3fN, b3fN, cc3fN, dd3fN⟩, ⟨a4fN, b4fN, cc4fN, dd4fN⟩, ⟨a5fN, b5fN, cc5fN, dd5fN⟩, ⟨a6fN, b6fN, cc6fN, dd6fN⟩, ⟨a8fN, b8fN, cc8fN, dd8fN⟩, ⟨a9fN, b9fN, cc9fN, dd9fN⟩⟩ := wfn (hWF fN hfN)
    obtain ⟨-, -, -, -, -, -, -, w7fN, -, -, wNfN, wRfN, wKfN, wOfN⟩ := hWF fN hfN
    refine r_iload_n (pc2 := 9) d_M_featureOf_8 rfl rfl ?_
    refine r_i2l (pc2 := 10) d_M_featureOf_9 rfl ?_
    refine r_lconst (v := (0 : Int64)) (pc2 := 11) d_M_featureOf_10 rfl (by decide) ?_
    refine r_ldc2 (pc2 := 14) d_M_featureOf_11 rfl k_M_286 ?_
    refine q_calls (M2 := mi_M_in) (pc2 := 17) d_M_featureOf_14 rfl k_M_68 cm_M_in cs_M_in rfl rfl (Nat.le_of_ble_eq_true rfl) (c_M_in (A := k.toInt) (B := (0 : Int)) (C := (9 : Int)) (toInt64_toInt (rfl)) (by decide) (by decide)) (d2 := d - 1) (by omega) (Nat.le_of_eq (Nat.zero_add _)) (Nat.le_of_eq (Nat.zero_add _)) ?_
    refine q_bif_ne (tgt := 27) (pc2 := 20) d_M_featureOf_17 rfl rfl (fun c3 => ?_) (fun c3 => ?_)
    · obtain ⟨kN, hkN, gkN, rfl, ekN⟩ := nat_of' (show (0 : Int) ≤ (0 : Int) by decide) c3
      refine r_iload_n (pc2 := 28) d_M_featureOf_27 rfl rfl ?_
      refine r_bipush (v := nI 8) (pc2 := 30) d_M_featureOf_28 rfl (by decide) ?_
      refine q_icmp_ne (tgt := 65) (A := ((kN : Nat) : Int)) (B := (8 : Int)) (pc2 := 33) d_M_featureOf_30 rfl rfl (nI_toInt (by omega)) (nI_toInt (by omega)) (fun c4 => ?_) (fun c4 => ?_)
      · refine r_iload_n (pc2 := 66) d_M_featureOf_65 rfl rfl ?_
        refine r_bipush (v := nI 9) (pc2 := 68) d_M_featureOf_66 rfl (by decide) ?_
        refine q_icmp_ne (tgt := 79) (A := ((kN : Nat) : Int)) (B := (9 : Int)) (pc2 := 71) d_M_featureOf_68 rfl rfl (nI_toInt (by omega)) (nI_toInt (by omega)) (fun c5 => ?_) (fun c5 => ?_)
        · refine r_aload_n (x := some 761) (pc2 := 80) d_M_featureOf_79 rfl rfl ?_
          refine r_iload_n (pc2 := 81) d_M_featureOf_80 rfl rfl ?_
          refine r_iload_n (pc2 := 82) d_M_featureOf_81 rfl rfl ?_
          refine q_callv (M2 := mi_M_of) (pc2 := 85) d_M_featureOf_82 rfl k_M_76 cm_M_of cv_M_of (sh_761 hS) (by decide) rfl rfl rfl (Nat.le_of_ble_eq_true rfl) (c_M_of (I := I) (F := fN) (W := kN) hS hR (by omega)) (d2 := d - 1) (by omega) (Nat.le_of_eq (Nat.zero_add _)) (Nat.le_of_eq (Nat.zero_add _)) ?_
          refine Run.ret (some (.int (I 762 (174 + 84 * fN + kN)))) d_M_featureOf_85 ⟨_, rfl⟩ ?_
          exact RQ.val (by (try simp only [efN, b0fN, b1fN, b2fN, b3fN, b4fN, b5fN, b6fN, b8fN, b9fN, ekN, Int.toNat_natCast] at c1 c3 c4 c5); (unfold o_featureOf); (try dsimp only); (try simp only [efN, b0fN, b1fN, b2fN, b3fN, b4fN, b5fN, b6fN, b8fN, b9fN, ekN, Int.toNat_natCast]); (repeat (first | rw [if_pos (by omega)] | rw [if_neg (by omega)])); (try rfl); (all_goals first | rfl | (simp only [a0fN, a1fN, a2fN, a3fN, a4fN, a5fN, a6fN, a8fN, a9fN]; done) | (congr 2; omega) | ((repeat' split) <;> first | rfl | (simp only [a0fN, a1fN, a2fN, a3fN, a4fN, a5fN, a6fN, a8fN, a9fN]; done) | (exfalso; omega) | (congr 2; omega) | skip))) FrS.rf
        · refine r_aload_n (x := some 761) (pc2 := 72) d_M_featureOf_71 rfl rfl ?_
          refine r_iload_n (pc2 := 73) d_M_featureOf_72 rfl rfl ?_
          refine q_callv (M2 := mi_M_keptMany) (pc2 := 76) d_M_featureOf_73 rfl k_M_260 cm_M_keptMany cv_M_keptMany (sh_761 hS) (by decide) rfl rfl rfl (Nat.le_of_ble_eq_true rfl) (c_M_keptMany (F := fN) hS hR hPc hP24 (by omega) (by omega)) (d2 := d - 1) (by omega) (Nat.le_of_eq (Nat.zero_add _)) (Nat.le_of_eq (Nat.zero_add _)) ?_
          refine r_goto (tgt := 85) d_M_featureOf_76 rfl ?_
          refine Run.ret (some (.int (nI (cnt (keptP (I 762) fN) nP)))) d_M_featureOf_85 ⟨_, rfl⟩ ?_
          exact RQ.val (by (try simp only [efN, b0fN, b1fN, b2fN, b3fN, b4fN, b5fN, b6fN, b8fN, b9fN, ekN, Int.toNat_natCast] at c1 c3 c4 c5); (unfold o_featureOf); (try dsimp only); (try simp only [efN, b0fN, b1fN, b2fN, b3fN, b4fN, b5fN, b6fN, b8fN, b9fN, ekN, Int.toNat_natCast]); (repeat (first | rw [if_pos (by omega)] | rw [if_neg (by omega)])); (try rfl); (all_goals first | rfl | (simp only [a0fN, a1fN, a2fN, a3fN, a4fN, a5fN, a6fN, a8fN, a9fN]; done) | (congr 2; omega) | ((repeat' split) <;> first | rfl | (simp only [a0fN, a1fN, a2fN, a3fN, a4fN, a5fN, a6fN, a8fN, a9fN]; done) | (exfalso; omega) | (congr 2; omega) | skip))) FrS.rf
      · refine r_aload_n (x := some 761) (pc2 := 34) d_M_featureOf_33 rfl rfl ?_
        refine r_iload_n (pc2 := 35) d_M_featureOf_34 rfl rfl ?_
        refine r_bipush (v := nI 7) (pc2 := 37) d_M_featureOf_35 rfl (by decide) ?_
        refine q_callv (M2 := mi_M_of) (pc2 := 40) d_M_featureOf_37 rfl k_M_76 cm_M_of cv_M_of (sh_761 hS) (by decide) rfl rfl rfl (Nat.le_of_ble_eq_true rfl) (c_M_of (I := I) (F := fN) (W := 7) hS hR (by omega)) (d2 := d - 1) (by omega) (Nat.le_of_eq (Nat.zero_add _)) (Nat.le_of_eq (Nat.zero_add _)) ?_
        refine q_if_ge (tgt := 47) (A := (I 762 (174 + 84 * fN + 7)).toInt) (pc2 := 43) d_M_featureOf_40 rfl rfl (rfl) (fun c6 => ?_) (fun c6 => ?_)
        · refine r_aload_n (x := some 761) (pc2 := 48) d_M_featureOf_47 rfl rfl ?_
          refine r_iload_n (pc2 := 49) d_M_featureOf_48 rfl rfl ?_
          refine r_bipush (v := nI 9) (pc2 := 51) d_M_featureOf_49 rfl (by decide) ?_
          refine q_callv (M2 := mi_M_of) (pc2 := 54) d_M_featureOf_51 rfl k_M_76 cm_M_of cv_M_of (sh_761 hS) (by decide) rfl rfl rfl (Nat.le_of_ble_eq_true rfl) (c_M_of (I := I) (F := fN) (W := 9) hS hR (by omega)) (d2 := d - 1) (by omega) (Nat.le_of_eq (Nat.zero_add _)) (Nat.le_of_eq (Nat.zero_add _)) ?_
          refine q_top (y := nI tofN) (a9fN) ?_
          refine r_aload_n (x := some 761) (pc2 := 55) d_M_featureOf_54 rfl rfl ?_
          refine r_iload_n (pc2 := 56) d_M_featureOf_55 rfl rfl ?_
          refine r_bipush (v := nI 8) (pc2 := 58) d_M_featureOf_56 rfl (by decide) ?_
          refine q_callv (M2 := mi_M_of) (pc2 := 61) d_M_featureOf_58 rfl k_M_76 cm_M_of cv_M_of (sh_761 hS) (by decide) rfl rfl rfl (Nat.le_of_ble_eq_true rfl) (c_M_of (I := I) (F := fN) (W := 8) hS hR (by omega)) (d2 := d - 1) (by omega) (Nat.le_of_eq (Nat.zero_add _)) (Nat.le_of_eq (Nat.zero_add _)) ?_
          refine q_top (y := nI frfN) (a8fN) ?_
          refine r_isub (pc2 := 62) d_M_featureOf_61 rfl ?_
          refine r_iconst (v := nI 1) (pc2 := 63) d_M_featureOf_62 rfl (by decide) ?_
          refine r_iadd (pc2 := 64) d_M_featureOf_63 rfl ?_
          refine Run.ret (some (.int (((nI tofN) - (nI frfN)) + (nI 1)))) d_M_featureOf_64 ⟨_, rfl⟩ ?_
          exact RQ.val (by (try simp only [efN, b0fN, b1fN, b2fN, b3fN, b4fN, b5fN, b6fN, b8fN, b9fN, ekN, Int.toNat_natCast] at c1 c3 c4 c6); (unfold o_featureOf); (try dsimp only); (try simp only [efN, b0fN, b1fN, b2fN, b3fN, b4fN, b5fN, b6fN, b8fN, b9fN, ekN, Int.toNat_natCast]); (repeat (first | rw [if_pos (by omega)] | rw [if_neg (by omega)])); (try rfl); (all_goals first | rfl | (simp only [a0fN, a1fN, a2fN, a3fN, a4fN, a5fN, a6fN, a8fN, a9fN]; done) | (congr 2; omega) | ((repeat' split) <;> first | rfl | (simp only [a0fN, a1fN, a2fN, a3fN, a4fN, a5fN, a6fN, a8fN, a9fN]; done) | (exfalso; omega) | (congr 2; omega) | skip))) FrS.rf
        · refine r_iconst (v := nI 0) (pc2 := 44) d_M_featureOf_43 rfl (by decide) ?_
          refine r_goto (tgt := 64) d_M_featureOf_44 rfl ?_
          refine Run.ret (some (.int (nI 0))) d_M_featureOf_64 ⟨_, rfl⟩ ?_
          exact RQ.val (by (try simp only [efN, b0fN, b1fN, b2fN, b3fN, b4fN, b5fN, b6fN, b8fN, b9fN, ekN, Int.toNat_natCast] at c1 c3 c4 c6); (unfold o_featureOf); (try dsimp only); (try simp only [efN, b0fN, b1fN, b2fN, b3fN, b4fN, b5fN, b6fN, b8fN, b9fN, ekN, Int.toNat_natCast]); (repeat (first | rw [if_pos (by omega)] | rw [if_neg (by omega)])); (try rfl); (all_goals first | rfl | (simp only [a0fN, a1fN, a2fN, a3fN, a4fN, a5fN, a6fN, a8fN, a9fN]; done) | (congr 2; omega) | ((repeat' split) <;> first | rfl | (simp only [a0fN, a1fN, a2fN, a3fN, a4fN, a5fN, a6fN, a8fN, a9fN]; done) | (exfalso; omega) | (congr 2; omega) | skip))) FrS.rf
    · refine r_aload_n (x := some 761) (pc2 := 21) d_M_featureOf_20 rfl rfl ?_
      refine r_bipush (v := (-32 : Int32)) (pc2 := 23) d_M_featureOf_21 rfl (by decide) ?_
      refine q_callv (M2 := mi_M_refused) (pc2 := 26) d_M_featureOf_23 rfl k_M_106 cm_M_refused cv_M_refused (sh_761 hS) (by decide) rfl rfl rfl (Nat.le_of_ble_eq_true rfl) (c_M_refused_0 (I := I) hS hR) (d2 := d - 1) (by omega) (Nat.le_of_eq (Nat.zero_add _)) (Nat.le_of_eq (Nat.zero_add _)) ?_
      obtain ⟨I7, hI7⟩ : ∃ x, x = u2 I 765 0 (I 765 0 + nI 1) := ⟨_, rfl⟩
      rw [← hI7]
      refine Run.ret (some (.int ((-32 : Int32)))) d_M_featureOf_26 ⟨_, rfl⟩ ?_
      exact RQ.bad 0 (by (try simp only [efN, b0fN, b1fN, b2fN, b3fN, b4fN, b5fN, b6fN, b8fN, b9fN, Int.toNat_natCast] at c1 c3); (unfold o_featureOf); (try dsimp only); (try simp only [efN, b0fN, b1fN, b2fN, b3fN, b4fN, b5fN, b6fN, b8fN, b9fN, Int.toNat_natCast]); (repeat (first | rw [if_pos (by omega)] | rw [if_neg (by omega)])); (try rfl); (all_goals first | rfl | (simp only [a0fN, a1fN, a2fN, a3fN, a4fN, a5fN, a6fN, a8fN, a9fN]; done) | (congr 2; omega) | ((repeat' split) <;> first | rfl | (simp only [a0fN, a1fN, a2fN, a3fN, a4fN, a5fN, a6fN, a8fN, a9fN]; done) | (exfalso; omega) | (congr 2; omega) | skip)); (try rfl)) (by decide) FrS.rf hI7
theorem l_M_layer {d : Nat} {I : Nat → Nat → Int32} {R : Nat → Nat → Option Nat} {L : Nat → Nat → Int64} {sh : Nat → Nat × Nat} {N : Nat} (hS : ShOK sh) (hR : RfOK R) {nF : Nat} (hFc : I 762 1 = nI nF) (hF12 : nF ≤ 12) {F : Nat} (hF : F < 12) {l a b : Int32} {P : Nat → Bool} (hP : P = meets (I 762) F l a b) (hd : 1 ≤ d) {Q : Option Value → HS → Prop} (hb : ∀ K, (∃ i, i < nF ∧ P i = true) → K = u2 I 765 3 (I 765 3 + nI 1) → Q (some (.int (-35 : Int32))) (K, R, L, sh, N)) (hk : fst1 P nF = none → Run mi_M_layer d 0 0 145 [(0, .ref 761), (1, .int (nI F)), (2, .int l), (3, .int a), (4, .int b)] [] (I, R, L, sh, N) Q) : ∀ (n_ : Nat) (i : Nat), nF - i = n_ → (∀ j, j < i → P j = false) → (i ≤ nF) → Run mi_M_layer d 0 0 62 [(0, .ref 761), (1, .int (nI F)), (2, .int l), (3, .int a), (4, .int b), (5, .int (nI i))] [] (I, R, L, sh, N) Q := by
  intro n_
  induction n_ using Nat.strongRecOn with | ind n_ ih_ => ?_
  intro i hn_ v0_ v1_
  refine r_iload (pc2 := 64) d_M_layer_62 rfl rfl ?_
  refine r_aload_n (x := some 761) (pc2 := 65) d_M_layer_64 rfl rfl ?_
  refine q_getR (x := some 762) (pc2 := 68) d_M_layer_65 rfl k_M_9 rfl (sh_761 hS) (rf_761_0 hR) ?_
  refine r_iconst (v := nI 1) (pc2 := 69) d_M_layer_68 rfl (by decide) ?_
  refine q_iaload (q := 1) (x := nI nF) (pc2 := 70) d_M_layer_69 rfl (sh_762 hS) (nI_toInt (by omega)) (by omega) hFc ?_
  refine q_icmp_ge (tgt := 145) (A := ((i : Nat) : Int)) (B := ((nF : Nat) : Int)) (pc2 := 73) d_M_layer_70 rfl rfl (nI_toInt (by omega)) (nI_toInt (by omega)) (fun c1 => ?_) (fun c1 => ?_)
  · refine Run.sub (l2 := [(0, .ref 761), (1, .int (nI F)), (2, .int l), (3, .int a), (4, .int b)]) ⟨rfl, rfl, rfl, rfl, rfl, trivial⟩ ?_
    exact hk (fst1_none (fun j hj => v0_ j (by omega)))
  · refine r_iload_n (pc2 := 74) d_M_layer_73 rfl rfl ?_
    refine q_if_lt (tgt := 124) (A := l.toInt) (pc2 := 77) d_M_layer_74 rfl rfl (rfl) (fun c2 => ?_) (fun c2 => ?_)
    · refine r_iconst (v := nI 0) (pc2 := 125) d_M_layer_124 rfl (by decide) ?_
      refine r_istore (pc2 := 127) d_M_layer_125 rfl (Nat.le_of_ble_eq_true rfl) ?_
      refine r_iload (pc2 := 129) d_M_layer_127 rfl rfl ?_
      refine q_if_eq (tgt := 139) (A := (0 : Int)) (pc2 := 132) d_M_layer_129 rfl rfl (nI_toInt (by omega)) (fun c3 => ?_) (fun c3 => ?_)
      rotate_left
      · exfalso; omega
      refine q_iinc (b := 1) (pc2 := 142) d_M_layer_139 rfl rfl (by decide) (Nat.le_of_ble_eq_true rfl) ?_
      refine r_goto (tgt := 62) d_M_layer_142 rfl ?_
      refine Run.sub (l2 := [(0, .ref 761), (1, .int (nI F)), (2, .int l), (3, .int a), (4, .int b), (5, .int (nI (i + 1)))]) ⟨rfl, rfl, rfl, rfl, rfl, rfl, trivial⟩ ?_
      exact ih_ (nF - (i + 1)) (by omega) (i + 1) rfl (fun j hj => by
        rcases Nat.lt_or_ge j i with q | q
        · exact v0_ j q
        · rw [show j = i by omega, hP]; unfold meets; exact decide_eq_false (by omega)) (by omega)
    · refine r_iload (pc2 := 79) d_M_layer_77 rfl rfl ?_
      refine r_iload_n (pc2 := 80) d_M_layer_79 rfl rfl ?_
      refine q_icmp_eq (tgt := 124) (A := ((i : Nat) : Int)) (B := ((F : Nat) : Int)) (pc2 := 83) d_M_layer_80 rfl rfl (nI_toInt (by omega)) (nI_toInt (by omega)) (fun c4 => ?_) (fun c4 => ?_)
      · refine r_iconst (v := nI 0) (pc2 := 125) d_M_layer_124 rfl (by decide) ?_
        refine r_istore (pc2 := 127) d_M_layer_125 rfl (Nat.le_of_ble_eq_true rfl) ?_
        refine r_iload (pc2 := 129) d_M_layer_127 rfl rfl ?_
        refine q_if_eq (tgt := 139) (A := (0 : Int)) (pc2 := 132) d_M_layer_129 rfl rfl (nI_toInt (by omega)) (fun c5 => ?_) (fun c5 => ?_)
        rotate_left
        · exfalso; omega
        refine q_iinc (b := 1) (pc2 := 142) d_M_layer_139 rfl rfl (by decide) (Nat.le_of_ble_eq_true rfl) ?_
        refine r_goto (tgt := 62) d_M_layer_142 rfl ?_
        refine Run.sub (l2 := [(0, .ref 761), (1, .int (nI F)), (2, .int l), (3, .int a), (4, .int b), (5, .int (nI (i + 1)))]) ⟨rfl, rfl, rfl, rfl, rfl, rfl, trivial⟩ ?_
        exact ih_ (nF - (i + 1)) (by omega) (i + 1) rfl (fun j hj => by
          rcases Nat.lt_or_ge j i with q | q
          · exact v0_ j q
          · rw [show j = i by omega, hP]; unfold meets; exact decide_eq_false (by omega)) (by omega)
      · refine r_aload_n (x := some 761) (pc2 := 84) d_M_layer_83 rfl rfl ?_
        refine r_iload (pc2 := 86) d_M_layer_84 rfl rfl ?_
        refine r_bipush (v := nI 7) (pc2 := 88) d_M_layer_86 rfl (by decide) ?_
        refine q_callv (M2 := mi_M_of) (pc2 := 91) d_M_layer_88 rfl k_M_76 cm_M_of cv_M_of (sh_761 hS) (by decide) rfl rfl rfl (Nat.le_of_ble_eq_true rfl) (c_M_of (I := I) (F := i) (W := 7) hS hR (by omega)) (d2 := d - 1) (by omega) (Nat.le_of_eq (Nat.zero_add _)) (Nat.le_of_eq (Nat.zero_add _)) ?_
        refine r_iload_n (pc2 := 92) d_M_layer_91 rfl rfl ?_
        refine q_icmp_ne (tgt := 124) (A := (I 762 (174 + 84 * i + 7)).toInt) (B := l.toInt) (pc2 := 95) d_M_layer_92 rfl rfl (rfl) (rfl) (fun c6 => ?_) (fun c6 => ?_)
        · refine r_iconst (v := nI 0) (pc2 := 125) d_M_layer_124 rfl (by decide) ?_
          refine r_istore (pc2 := 127) d_M_layer_125 rfl (Nat.le_of_ble_eq_true rfl) ?_
          refine r_iload (pc2 := 129) d_M_layer_127 rfl rfl ?_
          refine q_if_eq (tgt := 139) (A := (0 : Int)) (pc2 := 132) d_M_layer_129 rfl rfl (nI_toInt (by omega)) (fun c7 => ?_) (fun c7 => ?_)
          rotate_left
          · exfalso; omega
          refine q_iinc (b := 1) (pc2 := 142) d_M_layer_139 rfl rfl (by decide) (Nat.le_of_ble_eq_true rfl) ?_
          refine r_goto (tgt := 62) d_M_layer_142 rfl ?_
          refine Run.sub (l2 := [(0, .ref 761), (1, .int (nI F)), (2, .int l), (3, .int a), (4, .int b), (5, .int (nI (i + 1)))]) ⟨rfl, rfl, rfl, rfl, rfl, rfl, trivial⟩ ?_
          exact ih_ (nF - (i + 1)) (by omega) (i + 1) rfl (fun j hj => by
            rcases Nat.lt_or_ge j i with q | q
            · exact v0_ j q
            · rw [show j = i by omega, hP]; unfold meets; exact decide_eq_false (by omega)) (by omega)
        · refine r_aload_n (x := some 761) (pc2 := 96) d_M_layer_95 rfl rfl ?_
          refine r_iload (pc2 := 98) d_M_layer_96 rfl rfl ?_
          refine r_bipush (v := nI 8) (pc2 := 100) d_M_layer_98 rfl (by decide) ?_
          refine q_callv (M2 := mi_M_of) (pc2 := 103) d_M_layer_100 rfl k_M_76 cm_M_of cv_M_of (sh_761 hS) (by decide) rfl rfl rfl (Nat.le_of_ble_eq_true rfl) (c_M_of (I := I) (F := i) (W := 8) hS hR (by omega)) (d2 := d - 1) (by omega) (Nat.le_of_eq (Nat.zero_add _)) (Nat.le_of_eq (Nat.zero_add _)) ?_
          refine r_iload (pc2 := 105) d_M_layer_103 rfl rfl ?_
          refine q_icmp_gt (tgt := 124) (A := (I 762 (174 + 84 * i + 8)).toInt) (B := b.toInt) (pc2 := 108) d_M_layer_105 rfl rfl (rfl) (rfl) (fun c8 => ?_) (fun c8 => ?_)
          · refine r_iconst (v := nI 0) (pc2 := 125) d_M_layer_124 rfl (by decide) ?_
            refine r_istore (pc2 := 127) d_M_layer_125 rfl (Nat.le_of_ble_eq_true rfl) ?_
            refine r_iload (pc2 := 129) d_M_layer_127 rfl rfl ?_
            refine q_if_eq (tgt := 139) (A := (0 : Int)) (pc2 := 132) d_M_layer_129 rfl rfl (nI_toInt (by omega)) (fun c9 => ?_) (fun c9 => ?_)
            rotate_left
            · exfalso; omega
            refine q_iinc (b := 1) (pc2 := 142) d_M_layer_139 rfl rfl (by decide) (Nat.le_of_ble_eq_true rfl) ?_
            refine r_goto (tgt := 62) d_M_layer_142 rfl ?_
            refine Run.sub (l2 := [(0, .ref 761), (1, .int (nI F)), (2, .int l), (3, .int a), (4, .int b), (5, .int (nI (i + 1)))]) ⟨rfl, rfl, rfl, rfl, rfl, rfl, trivial⟩ ?_
            exact ih_ (nF - (i + 1)) (by omega) (i + 1) rfl (fun j hj => by
              rcases Nat.lt_or_ge j i with q | q
              · exact v0_ j q
              · rw [show j = i by omega, hP]; unfold meets; exact decide_eq_false (by omega)) (by omega)
          · refine r_aload_n (x := some 761) (pc2 := 109) d_M_layer_108 rfl rfl ?_
            refine r_iload (pc2 := 111) d_M_layer_109 rfl rfl ?_
            refine r_bipush (v := nI 9) (pc2 := 113) d_M_layer_111 rfl (by decide) ?_
            refine q_callv (M2 := mi_M_of) (pc2 := 116) d_M_layer_113 rfl k_M_76 cm_M_of cv_M_of (sh_761 hS) (by decide) rfl rfl rfl (Nat.le_of_ble_eq_true rfl) (c_M_of (I := I) (F := i) (W := 9) hS hR (by omega)) (d2 := d - 1) (by omega) (Nat.le_of_eq (Nat.zero_add _)) (Nat.le_of_eq (Nat.zero_add _)) ?_
            refine r_iload_n (pc2 := 117) d_M_layer_116 rfl rfl ?_
            refine q_icmp_lt (tgt := 124) (A := (I 762 (174 + 84 * i + 9)).toInt) (B := a.toInt) (pc2 := 120) d_M_layer_117 rfl rfl (rfl) (rfl) (fun c10 => ?_) (fun c10 => ?_)
            · refine r_iconst (v := nI 0) (pc2 := 125) d_M_layer_124 rfl (by decide) ?_
              refine r_istore (pc2 := 127) d_M_layer_125 rfl (Nat.le_of_ble_eq_true rfl) ?_
              refine r_iload (pc2 := 129) d_M_layer_127 rfl rfl ?_
              refine q_if_eq (tgt := 139) (A := (0 : Int)) (pc2 := 132) d_M_layer_129 rfl rfl (nI_toInt (by omega)) (fun c11 => ?_) (fun c11 => ?_)
              rotate_left
              · exfalso; omega
              refine q_iinc (b := 1) (pc2 := 142) d_M_layer_139 rfl rfl (by decide) (Nat.le_of_ble_eq_true rfl) ?_
              refine r_goto (tgt := 62) d_M_layer_142 rfl ?_
              refine Run.sub (l2 := [(0, .ref 761), (1, .int (nI F)), (2, .int l), (3, .int a), (4, .int b), (5, .int (nI (i + 1)))]) ⟨rfl, rfl, rfl, rfl, rfl, rfl, trivial⟩ ?_
              exact ih_ (nF - (i + 1)) (by omega) (i + 1) rfl (fun j hj => by
                rcases Nat.lt_or_ge j i with q | q
                · exact v0_ j q
                · rw [show j = i by omega, hP]; unfold meets; exact decide_eq_false (by omega)) (by omega)
            · refine r_iconst (v := nI 1) (pc2 := 121) d_M_layer_120 rfl (by decide) ?_
              refine r_goto (tgt := 125) d_M_layer_121 rfl ?_
              refine r_istore (pc2 := 127) d_M_layer_125 rfl (Nat.le_of_ble_eq_true rfl) ?_
              refine r_iload (pc2 := 129) d_M_layer_127 rfl rfl ?_
              refine q_if_eq (tgt := 139) (A := (1 : Int)) (pc2 := 132) d_M_layer_129 rfl rfl (nI_toInt (by omega)) (fun c12 => ?_) (fun c12 => ?_)
              · exfalso; omega
              refine r_aload_n (x := some 761) (pc2 := 133) d_M_layer_132 rfl rfl ?_
              refine r_bipush (v := (-35 : Int32)) (pc2 := 135) d_M_layer_133 rfl (by decide) ?_
              refine q_callv (M2 := mi_M_refused) (pc2 := 138) d_M_layer_135 rfl k_M_106 cm_M_refused cv_M_refused (sh_761 hS) (by decide) rfl rfl rfl (Nat.le_of_ble_eq_true rfl) (c_M_refused_3 (I := I) hS hR) (d2 := d - 1) (by omega) (Nat.le_of_eq (Nat.zero_add _)) (Nat.le_of_eq (Nat.zero_add _)) ?_
              obtain ⟨I13, hI13⟩ : ∃ x, x = u2 I 765 3 (I 765 3 + nI 1) := ⟨_, rfl⟩
              rw [← hI13]
              refine Run.ret (some (.int ((-35 : Int32)))) d_M_layer_138 ⟨_, rfl⟩ ?_
              exact hb _ ⟨i, by omega, by rw [hP]; unfold meets; exact decide_eq_true (by omega)⟩ hI13
theorem c_M_layer {d : Nat} {I : Nat → Nat → Int32} {R : Nat → Nat → Option Nat} {L : Nat → Nat → Int64} {sh : Nat → Nat × Nat} {N : Nat} (hS : ShOK sh) (hR : RfOK R) {kA fA cA gA nk nt : Nat} (hT : TRf R sh kA fA cA gA nk) (hTn : TNe kA fA cA gA) (hV : TV (I kA) (I fA) (I cA) nt) (hnt : nt ≤ nk) (hnk : nk ≤ 1000000) {nP nF : Nat} (hW : WFA (I 762) nP nF nt) {rk : Nat → Nat} (hrk : RK (I 762) nF rk) {f : Int32} {l : Int32} {a : Int32} {b : Int32} (hd : nt + 60 ≤ d) : Mt mi_M_layer d 0 0 [.ref 761, .int f, .int l, .int a, .int b] (I, R, L, sh, N) (RQW I R L sh N (o_layer (I 762) nF f l a b) (g_layer (I 762) nF f l a b)) := by
  obtain ⟨hPc, hP24, hFc, hF12, hWF, hWP⟩ := id hW
  obtain ⟨hn1, hn2, hn3, hn4⟩ := id hTn
  refine Mt.of pn_M (Nat.le_of_ble_eq_true rfl) ?_
  show Run mi_M_layer d 0 0 0 [(0, .ref 761), (1, .int f), (2, .int l), (3, .int a), (4, .int b)] [] (I, R, L, sh, N) _
  refine r_aload_n (x := some 761) (pc2 := 1) d_M_layer_0 rfl rfl ?_
  refine r_iload_n (pc2 := 2) d_M_layer_1 rfl rfl ?_
  refine q_callv (M2 := mi_M_isFeature) (pc2 := 5) d_M_layer_2 rfl k_M_72 cm_M_isFeature cv_M_isFeature (sh_761 hS) (by decide) rfl rfl rfl (Nat.le_of_ble_eq_true rfl) (c_M_isFeature (I := I) (nF := nF) (f := f) hS hR (hFc) hF12 (by omega)) (d2 := d - 1) (by omega) (Nat.le_of_eq (Nat.zero_add _)) (Nat.le_of_eq (Nat.zero_add _)) ?_
  refine q_bif_eq (tgt := 52) (pc2 := 8) d_M_layer_5 rfl rfl (fun c1 => ?_) (fun c1 => ?_)
  · refine r_aload_n (x := some 761) (pc2 := 53) d_M_layer_52 rfl rfl ?_
    refine r_bipush (v := (-32 : Int32)) (pc2 := 55) d_M_layer_53 rfl (by decide) ?_
    refine q_callv (M2 := mi_M_refused) (pc2 := 58) d_M_layer_55 rfl k_M_106 cm_M_refused cv_M_refused (sh_761 hS) (by decide) rfl rfl rfl (Nat.le_of_ble_eq_true rfl) (c_M_refused_0 (I := I) hS hR) (d2 := d - 1) (by omega) (Nat.le_of_eq (Nat.zero_add _)) (Nat.le_of_eq (Nat.zero_add _)) ?_
    obtain ⟨I2, hI2⟩ : ∃ x, x = u2 I 765 0 (I 765 0 + nI 1) := ⟨_, rfl⟩
    rw [← hI2]
    refine Run.ret (some (.int ((-32 : Int32)))) d_M_layer_58 ⟨_, rfl⟩ ?_
    first | (exfalso; omega) | exact RQW.bad 0 (by (try simp only [g_layer1, Int.toNat_natCast] at c1); (unfold o_layer); (try dsimp only); (try simp only [g_layer1, Int.toNat_natCast]); (repeat (first | rw [if_pos (by omega)] | rw [if_neg (by omega)])); (try rfl); (all_goals first | rfl | (congr 2; omega) | ((repeat' split) <;> first | rfl | (exfalso; omega) | (congr 2; omega) | skip)); (try rfl)) (by (try simp only [g_layer1, Int.toNat_natCast] at c1); (unfold g_layer); (try dsimp only); (try simp only [g_layer1, Int.toNat_natCast]); (repeat (first | rw [if_pos (by omega)] | rw [if_neg (by omega)])); (try rfl); (all_goals first | rfl | (congr 2; omega) | ((repeat' split) <;> first | rfl | (exfalso; omega) | (congr 2; omega) | skip)); (try rfl)) (by decide) FrS.rf hI2
  · obtain ⟨fN, hfN, rfl, efN⟩ := nat_of c1
    obtain ⟨tpfN, klfN, skfN, fbfN, nRfN, nNfN, nOfN, frfN, tofN, ⟨a0fN, b0fN, cc0fN, dd0fN⟩, ⟨a1fN, b1fN, cc1fN, dd1fN⟩, ⟨a2fN, b2fN, cc2fN, dd2fN⟩, ⟨a3fN, b3fN, cc3fN, dd3fN⟩, ⟨a4fN, b4fN, cc4fN, dd4fN⟩, ⟨a5fN, b5fN, cc5fN, dd5fN⟩, ⟨a6fN, b6fN, cc6fN, dd6fN⟩, ⟨a8fN, b8fN, cc8fN, dd8fN⟩, ⟨a9fN, b9fN, cc9fN, dd9fN⟩⟩ := wfn (hWF fN hfN)
    obtain ⟨-, -, -, -, -, -, -, w7fN, -, -, wNfN, wRfN, wKfN, wOfN⟩ := hWF fN hfN
    refine r_iload_n (pc2 := 9) d_M_layer_8 rfl rfl ?_
    refine r_i2l (pc2 := 10) d_M_layer_9 rfl ?_
    refine r_ldc2 (pc2 := 13) d_M_layer_10 rfl k_M_238 ?_
    refine r_ldc2 (pc2 := 16) d_M_layer_13 rfl k_M_210 ?_
    refine q_calls (M2 := mi_M_in) (pc2 := 19) d_M_layer_16 rfl k_M_68 cm_M_in cs_M_in rfl rfl (Nat.le_of_ble_eq_true rfl) (c_M_in (A := l.toInt) (B := (-1 : Int)) (C := (3 : Int)) (toInt64_toInt (rfl)) (by decide) (by decide)) (d2 := d - 1) (by omega) (Nat.le_of_eq (Nat.zero_add _)) (Nat.le_of_eq (Nat.zero_add _)) ?_
    refine q_bif_eq (tgt := 52) (pc2 := 22) d_M_layer_19 rfl rfl (fun c3 => ?_) (fun c3 => ?_)
    · refine r_aload_n (x := some 761) (pc2 := 53) d_M_layer_52 rfl rfl ?_
      refine r_bipush (v := (-32 : Int32)) (pc2 := 55) d_M_layer_53 rfl (by decide) ?_
      refine q_callv (M2 := mi_M_refused) (pc2 := 58) d_M_layer_55 rfl k_M_106 cm_M_refused cv_M_refused (sh_761 hS) (by decide) rfl rfl rfl (Nat.le_of_ble_eq_true rfl) (c_M_refused_0 (I := I) hS hR) (d2 := d - 1) (by omega) (Nat.le_of_eq (Nat.zero_add _)) (Nat.le_of_eq (Nat.zero_add _)) ?_
      obtain ⟨I4, hI4⟩ : ∃ x, x = u2 I 765 0 (I 765 0 + nI 1) := ⟨_, rfl⟩
      rw [← hI4]
      refine Run.ret (some (.int ((-32 : Int32)))) d_M_layer_58 ⟨_, rfl⟩ ?_
      first | (exfalso; omega) | exact RQW.bad 0 (by (try simp only [g_layer1, efN, b0fN, b1fN, b2fN, b3fN, b4fN, b5fN, b6fN, b8fN, b9fN, Int.toNat_natCast] at c1 c3); (unfold o_layer); (try dsimp only); (try simp only [g_layer1, efN, b0fN, b1fN, b2fN, b3fN, b4fN, b5fN, b6fN, b8fN, b9fN, Int.toNat_natCast]); (repeat (first | rw [if_pos (by omega)] | rw [if_neg (by omega)])); (try rfl); (all_goals first | rfl | (simp only [a0fN, a1fN, a2fN, a3fN, a4fN, a5fN, a6fN, a8fN, a9fN]; done) | (congr 2; omega) | ((repeat' split) <;> first | rfl | (simp only [a0fN, a1fN, a2fN, a3fN, a4fN, a5fN, a6fN, a8fN, a9fN]; done) | (exfalso; omega) | (congr 2; omega) | skip)); (try rfl)) (by (try simp only [g_layer1, efN, b0fN, b1fN, b2fN, b3fN, b4fN, b5fN, b6fN, b8fN, b9fN, Int.toNat_natCast] at c1 c3); (unfold g_layer); (try dsimp only); (try simp only [g_layer1, efN, b0fN, b1fN, b2fN, b3fN, b4fN, b5fN, b6fN, b8fN, b9fN, Int.toNat_natCast]); (repeat (first | rw [if_pos (by omega)] | rw [if_neg (by omega)])); (try rfl); (all_goals first | rfl | (simp only [a0fN, a1fN, a2fN, a3fN, a4fN, a5fN, a6fN, a8fN, a9fN]; done) | (congr 2; omega) | ((repeat' split) <;> first | rfl | (simp only [a0fN, a1fN, a2fN, a3fN, a4fN, a5fN, a6fN, a8fN, a9fN]; done) | (exfalso; omega) | (congr 2; omega) | skip)); (try rfl)) (by decide) FrS.rf hI4
    · refine r_iload_n (pc2 := 23) d_M_layer_22 rfl rfl ?_
      refine q_if_lt (tgt := 59) (A := l.toInt) (pc2 := 26) d_M_layer_23 rfl rfl (rfl) (fun c5 => ?_) (fun c5 => ?_)
      · refine r_iconst (v := nI 0) (pc2 := 60) d_M_layer_59 rfl (by decide) ?_
        refine r_istore (pc2 := 62) d_M_layer_60 rfl (Nat.le_of_ble_eq_true rfl) ?_
        refine Run.sub (l2 := [(0, .ref 761), (1, .int (nI fN)), (2, .int l), (3, .int a), (4, .int b), (5, .int (nI 0))]) ⟨rfl, rfl, rfl, rfl, rfl, rfl, trivial⟩ ?_
        refine l_M_layer hS hR hFc hF12 (F := fN) (l := l) (a := a) (b := b) (by omega) rfl (by omega) (fun K hK1 hK2 => ?_) (fun hn6 => ?_) _ 0 rfl (fun j hj => absurd hj (by omega)) (by omega)
        · obtain ⟨i, hi, hPi⟩ := hK1
          obtain ⟨kx, hkx⟩ := fst1_ex hPi hi
          exact RQW.bad 3 (by (try simp only [g_layer1, efN, b0fN, b1fN, b2fN, b3fN, b4fN, b5fN, b6fN, b8fN, b9fN, Int.toNat_natCast] at c1 c3 c5); (unfold o_layer); (try dsimp only); (try simp only [g_layer1, efN, b0fN, b1fN, b2fN, b3fN, b4fN, b5fN, b6fN, b8fN, b9fN, Int.toNat_natCast]); (repeat (first | rw [if_pos (by omega)] | rw [if_neg (by omega)] | (rw [hkx]; try dsimp only))); (try rfl); (all_goals first | rfl | (simp only [a0fN, a1fN, a2fN, a3fN, a4fN, a5fN, a6fN, a8fN, a9fN]; done) | (congr 2; omega) | ((repeat' split) <;> first | rfl | (simp only [a0fN, a1fN, a2fN, a3fN, a4fN, a5fN, a6fN, a8fN, a9fN]; done) | (exfalso; omega) | (congr 2; omega) | skip))) (by (try simp only [g_layer1, efN, b0fN, b1fN, b2fN, b3fN, b4fN, b5fN, b6fN, b8fN, b9fN, Int.toNat_natCast] at c1 c3 c5); (unfold g_layer); (try dsimp only); (try simp only [g_layer1, efN, b0fN, b1fN, b2fN, b3fN, b4fN, b5fN, b6fN, b8fN, b9fN, Int.toNat_natCast]); (repeat (first | rw [if_pos (by omega)] | rw [if_neg (by omega)] | (rw [hkx]; try dsimp only))); (try rfl); (all_goals first | rfl | (simp only [a0fN, a1fN, a2fN, a3fN, a4fN, a5fN, a6fN, a8fN, a9fN]; done) | (congr 2; omega) | ((repeat' split) <;> first | rfl | (simp only [a0fN, a1fN, a2fN, a3fN, a4fN, a5fN, a6fN, a8fN, a9fN]; done) | (exfalso; omega) | (congr 2; omega) | skip))) (by decide) FrS.rf hK2
        refine r_aload_n (x := some 761) (pc2 := 146) d_M_layer_145 rfl rfl ?_
        refine r_iload_n (pc2 := 147) d_M_layer_146 rfl rfl ?_
        refine r_bipush (v := nI 7) (pc2 := 149) d_M_layer_147 rfl (by decide) ?_
        refine r_iload_n (pc2 := 150) d_M_layer_149 rfl rfl ?_
        refine q_callvV (M2 := mi_M_is) (pc2 := 153) d_M_layer_150 rfl k_M_157 cm_M_is cv_M_is (sh_761 hS) (by decide) rfl rfl rfl (Nat.le_of_ble_eq_true rfl) (c_M_is (I := I) (F := fN) (W := 7) (v := l) hS hR (by omega)) (d2 := d - 1) (by omega) (Nat.le_of_eq (Nat.zero_add _)) (Nat.le_of_eq (Nat.zero_add _)) ?_
        obtain ⟨I7, hI7⟩ : ∃ x, x = u2 I 762 (174 + 84 * fN + 7) l := ⟨_, rfl⟩
        rw [← hI7]
        refine r_aload_n (x := some 761) (pc2 := 154) d_M_layer_153 rfl rfl ?_
        refine r_iload_n (pc2 := 155) d_M_layer_154 rfl rfl ?_
        refine r_bipush (v := nI 8) (pc2 := 157) d_M_layer_155 rfl (by decide) ?_
        refine r_iload_n (pc2 := 158) d_M_layer_157 rfl rfl ?_
        refine q_if_ge (tgt := 165) (A := l.toInt) (pc2 := 161) d_M_layer_158 rfl rfl (rfl) (fun c8 => ?_) (fun c8 => ?_)
        · refine r_iload_n (pc2 := 166) d_M_layer_165 rfl rfl ?_
          refine q_callvV (M2 := mi_M_is) (pc2 := 169) d_M_layer_166 rfl k_M_157 cm_M_is cv_M_is (sh_761 hS) (by decide) rfl rfl rfl (Nat.le_of_ble_eq_true rfl) (c_M_is (I := I7) (F := fN) (W := 8) (v := a) hS hR (by omega)) (d2 := d - 1) (by omega) (Nat.le_of_eq (Nat.zero_add _)) (Nat.le_of_eq (Nat.zero_add _)) ?_
          obtain ⟨I9, hI9⟩ : ∃ x, x = u2 I7 762 (174 + 84 * fN + 8) a := ⟨_, rfl⟩
          rw [← hI9]
          refine r_aload_n (x := some 761) (pc2 := 170) d_M_layer_169 rfl rfl ?_
          refine r_iload_n (pc2 := 171) d_M_layer_170 rfl rfl ?_
          refine r_bipush (v := nI 9) (pc2 := 173) d_M_layer_171 rfl (by decide) ?_
          refine r_iload_n (pc2 := 174) d_M_layer_173 rfl rfl ?_
          refine q_if_ge (tgt := 181) (A := l.toInt) (pc2 := 177) d_M_layer_174 rfl rfl (rfl) (fun c10 => ?_) (fun c10 => ?_)
          · refine r_iload (pc2 := 183) d_M_layer_181 rfl rfl ?_
            refine q_callvV (M2 := mi_M_is) (pc2 := 186) d_M_layer_183 rfl k_M_157 cm_M_is cv_M_is (sh_761 hS) (by decide) rfl rfl rfl (Nat.le_of_ble_eq_true rfl) (c_M_is (I := I9) (F := fN) (W := 9) (v := b) hS hR (by omega)) (d2 := d - 1) (by omega) (Nat.le_of_eq (Nat.zero_add _)) (Nat.le_of_eq (Nat.zero_add _)) ?_
            obtain ⟨I11, hI11⟩ : ∃ x, x = u2 I9 762 (174 + 84 * fN + 9) b := ⟨_, rfl⟩
            rw [← hI11]
            refine r_iconst (v := nI 1) (pc2 := 187) d_M_layer_186 rfl (by decide) ?_
            refine Run.ret (some (.int (nI 1))) d_M_layer_187 ⟨_, rfl⟩ ?_
            first | (exfalso; omega) | exact RQW.val (by (try simp only [g_layer1, efN, b0fN, b1fN, b2fN, b3fN, b4fN, b5fN, b6fN, b8fN, b9fN, Int.toNat_natCast] at c1 c3 c5 c8 c10); (unfold o_layer); (try dsimp only); (try simp only [g_layer1, efN, b0fN, b1fN, b2fN, b3fN, b4fN, b5fN, b6fN, b8fN, b9fN, Int.toNat_natCast]); (repeat (first | rw [if_pos (by omega)] | rw [if_neg (by omega)] | (rw [hn6]; try dsimp only))); (try rfl); (all_goals first | rfl | (simp only [a0fN, a1fN, a2fN, a3fN, a4fN, a5fN, a6fN, a8fN, a9fN]; done) | (congr 2; omega) | ((repeat' split) <;> first | rfl | (simp only [a0fN, a1fN, a2fN, a3fN, a4fN, a5fN, a6fN, a8fN, a9fN]; done) | (exfalso; omega) | (congr 2; omega) | skip))) (by (try simp only [g_layer1, efN, b0fN, b1fN, b2fN, b3fN, b4fN, b5fN, b6fN, b8fN, b9fN, Int.toNat_natCast] at c1 c3 c5 c8 c10); (unfold g_layer); (try dsimp only); (try simp only [g_layer1, efN, b0fN, b1fN, b2fN, b3fN, b4fN, b5fN, b6fN, b8fN, b9fN, Int.toNat_natCast]); (repeat (first | rw [if_pos (by omega)] | rw [if_neg (by omega)] | (rw [hn6]; try dsimp only))); exact (setR_put (setR_put (setR_put FrS.rf.set hI7) hI9) hI11))
          · refine r_iconst (v := nI 0) (pc2 := 178) d_M_layer_177 rfl (by decide) ?_
            refine r_goto (tgt := 183) d_M_layer_178 rfl ?_
            refine q_callvV (M2 := mi_M_is) (pc2 := 186) d_M_layer_183 rfl k_M_157 cm_M_is cv_M_is (sh_761 hS) (by decide) rfl rfl rfl (Nat.le_of_ble_eq_true rfl) (c_M_is (I := I9) (F := fN) (W := 9) (v := nI 0) hS hR (by omega)) (d2 := d - 1) (by omega) (Nat.le_of_eq (Nat.zero_add _)) (Nat.le_of_eq (Nat.zero_add _)) ?_
            obtain ⟨I12, hI12⟩ : ∃ x, x = u2 I9 762 (174 + 84 * fN + 9) (nI 0) := ⟨_, rfl⟩
            rw [← hI12]
            refine r_iconst (v := nI 1) (pc2 := 187) d_M_layer_186 rfl (by decide) ?_
            refine Run.ret (some (.int (nI 1))) d_M_layer_187 ⟨_, rfl⟩ ?_
            first | (exfalso; omega) | exact RQW.val (by (try simp only [g_layer1, efN, b0fN, b1fN, b2fN, b3fN, b4fN, b5fN, b6fN, b8fN, b9fN, Int.toNat_natCast] at c1 c3 c5 c8 c10); (unfold o_layer); (try dsimp only); (try simp only [g_layer1, efN, b0fN, b1fN, b2fN, b3fN, b4fN, b5fN, b6fN, b8fN, b9fN, Int.toNat_natCast]); (repeat (first | rw [if_pos (by omega)] | rw [if_neg (by omega)] | (rw [hn6]; try dsimp only))); (try rfl); (all_goals first | rfl | (simp only [a0fN, a1fN, a2fN, a3fN, a4fN, a5fN, a6fN, a8fN, a9fN]; done) | (congr 2; omega) | ((repeat' split) <;> first | rfl | (simp only [a0fN, a1fN, a2fN, a3fN, a4fN, a5fN, a6fN, a8fN, a9fN]; done) | (exfalso; omega) | (congr 2; omega) | skip))) (by (try simp only [g_layer1, efN, b0fN, b1fN, b2fN, b3fN, b4fN, b5fN, b6fN, b8fN, b9fN, Int.toNat_natCast] at c1 c3 c5 c8 c10); (unfold g_layer); (try dsimp only); (try simp only [g_layer1, efN, b0fN, b1fN, b2fN, b3fN, b4fN, b5fN, b6fN, b8fN, b9fN, Int.toNat_natCast]); (repeat (first | rw [if_pos (by omega)] | rw [if_neg (by omega)] | (rw [hn6]; try dsimp only))); exact (setR_put (setR_put (setR_put FrS.rf.set hI7) hI9) hI12))
        · refine r_iconst (v := nI 0) (pc2 := 162) d_M_layer_161 rfl (by decide) ?_
          refine r_goto (tgt := 166) d_M_layer_162 rfl ?_
          refine q_callvV (M2 := mi_M_is) (pc2 := 169) d_M_layer_166 rfl k_M_157 cm_M_is cv_M_is (sh_761 hS) (by decide) rfl rfl rfl (Nat.le_of_ble_eq_true rfl) (c_M_is (I := I7) (F := fN) (W := 8) (v := nI 0) hS hR (by omega)) (d2 := d - 1) (by omega) (Nat.le_of_eq (Nat.zero_add _)) (Nat.le_of_eq (Nat.zero_add _)) ?_
          obtain ⟨I13, hI13⟩ : ∃ x, x = u2 I7 762 (174 + 84 * fN + 8) (nI 0) := ⟨_, rfl⟩
          rw [← hI13]
          refine r_aload_n (x := some 761) (pc2 := 170) d_M_layer_169 rfl rfl ?_
          refine r_iload_n (pc2 := 171) d_M_layer_170 rfl rfl ?_
          refine r_bipush (v := nI 9) (pc2 := 173) d_M_layer_171 rfl (by decide) ?_
          refine r_iload_n (pc2 := 174) d_M_layer_173 rfl rfl ?_
          refine q_if_ge (tgt := 181) (A := l.toInt) (pc2 := 177) d_M_layer_174 rfl rfl (rfl) (fun c14 => ?_) (fun c14 => ?_)
          · refine r_iload (pc2 := 183) d_M_layer_181 rfl rfl ?_
            refine q_callvV (M2 := mi_M_is) (pc2 := 186) d_M_layer_183 rfl k_M_157 cm_M_is cv_M_is (sh_761 hS) (by decide) rfl rfl rfl (Nat.le_of_ble_eq_true rfl) (c_M_is (I := I13) (F := fN) (W := 9) (v := b) hS hR (by omega)) (d2 := d - 1) (by omega) (Nat.le_of_eq (Nat.zero_add _)) (Nat.le_of_eq (Nat.zero_add _)) ?_
            obtain ⟨I15, hI15⟩ : ∃ x, x = u2 I13 762 (174 + 84 * fN + 9) b := ⟨_, rfl⟩
            rw [← hI15]
            refine r_iconst (v := nI 1) (pc2 := 187) d_M_layer_186 rfl (by decide) ?_
            refine Run.ret (some (.int (nI 1))) d_M_layer_187 ⟨_, rfl⟩ ?_
            first | (exfalso; omega) | exact RQW.val (by (try simp only [g_layer1, efN, b0fN, b1fN, b2fN, b3fN, b4fN, b5fN, b6fN, b8fN, b9fN, Int.toNat_natCast] at c1 c3 c5 c8 c14); (unfold o_layer); (try dsimp only); (try simp only [g_layer1, efN, b0fN, b1fN, b2fN, b3fN, b4fN, b5fN, b6fN, b8fN, b9fN, Int.toNat_natCast]); (repeat (first | rw [if_pos (by omega)] | rw [if_neg (by omega)] | (rw [hn6]; try dsimp only))); (try rfl); (all_goals first | rfl | (simp only [a0fN, a1fN, a2fN, a3fN, a4fN, a5fN, a6fN, a8fN, a9fN]; done) | (congr 2; omega) | ((repeat' split) <;> first | rfl | (simp only [a0fN, a1fN, a2fN, a3fN, a4fN, a5fN, a6fN, a8fN, a9fN]; done) | (exfalso; omega) | (congr 2; omega) | skip))) (by (try simp only [g_layer1, efN, b0fN, b1fN, b2fN, b3fN, b4fN, b5fN, b6fN, b8fN, b9fN, Int.toNat_natCast] at c1 c3 c5 c8 c14); (unfold g_layer); (try dsimp only); (try simp only [g_layer1, efN, b0fN, b1fN, b2fN, b3fN, b4fN, b5fN, b6fN, b8fN, b9fN, Int.toNat_natCast]); (repeat (first | rw [if_pos (by omega)] | rw [if_neg (by omega)] | (rw [hn6]; try dsimp only))); exact (setR_put (setR_put (setR_put FrS.rf.set hI7) hI13) hI15))
          · refine r_iconst (v := nI 0) (pc2 := 178) d_M_layer_177 rfl (by decide) ?_
            refine r_goto (tgt := 183) d_M_layer_178 rfl ?_
            refine q_callvV (M2 := mi_M_is) (pc2 := 186) d_M_layer_183 rfl k_M_157 cm_M_is cv_M_is (sh_761 hS) (by decide) rfl rfl rfl (Nat.le_of_ble_eq_true rfl) (c_M_is (I := I13) (F := fN) (W := 9) (v := nI 0) hS hR (by omega)) (d2 := d - 1) (by omega) (Nat.le_of_eq (Nat.zero_add _)) (Nat.le_of_eq (Nat.zero_add _)) ?_
            obtain ⟨I16, hI16⟩ : ∃ x, x = u2 I13 762 (174 + 84 * fN + 9) (nI 0) := ⟨_, rfl⟩
            rw [← hI16]
            refine r_iconst (v := nI 1) (pc2 := 187) d_M_layer_186 rfl (by decide) ?_
            refine Run.ret (some (.int (nI 1))) d_M_layer_187 ⟨_, rfl⟩ ?_
            first | (exfalso; omega) | exact RQW.val (by (try simp only [g_layer1, efN, b0fN, b1fN, b2fN, b3fN, b4fN, b5fN, b6fN, b8fN, b9fN, Int.toNat_natCast] at c1 c3 c5 c8 c14); (unfold o_layer); (try dsimp only); (try simp only [g_layer1, efN, b0fN, b1fN, b2fN, b3fN, b4fN, b5fN, b6fN, b8fN, b9fN, Int.toNat_natCast]); (repeat (first | rw [if_pos (by omega)] | rw [if_neg (by omega)] | (rw [hn6]; try dsimp only))); (try rfl); (all_goals first | rfl | (simp only [a0fN, a1fN, a2fN, a3fN, a4fN, a5fN, a6fN, a8fN, a9fN]; done) | (congr 2; omega) | ((repeat' split) <;> first | rfl | (simp only [a0fN, a1fN, a2fN, a3fN, a4fN, a5fN, a6fN, a8fN, a9fN]; done) | (exfalso; omega) | (congr 2; omega) | skip))) (by (try simp only [g_layer1, efN, b0fN, b1fN, b2fN, b3fN, b4fN, b5fN, b6fN, b8fN, b9fN, Int.toNat_natCast] at c1 c3 c5 c8 c14); (unfold g_layer); (try dsimp only); (try simp only [g_layer1, efN, b0fN, b1fN, b2fN, b3fN, b4fN, b5fN, b6fN, b8fN, b9fN, Int.toNat_natCast]); (repeat (first | rw [if_pos (by omega)] | rw [if_neg (by omega)] | (rw [hn6]; try dsimp only))); exact (setR_put (setR_put (setR_put FrS.rf.set hI7) hI13) hI16))
      · refine r_iload_n (pc2 := 27) d_M_layer_26 rfl rfl ?_
        refine r_i2l (pc2 := 28) d_M_layer_27 rfl ?_
        refine r_lconst (v := (0 : Int64)) (pc2 := 29) d_M_layer_28 rfl (by decide) ?_
        refine r_ldc2 (pc2 := 32) d_M_layer_29 rfl k_M_240 ?_
        refine q_calls (M2 := mi_M_in) (pc2 := 35) d_M_layer_32 rfl k_M_68 cm_M_in cs_M_in rfl rfl (Nat.le_of_ble_eq_true rfl) (c_M_in (A := a.toInt) (B := (0 : Int)) (C := (999 : Int)) (toInt64_toInt (rfl)) (by decide) (by decide)) (d2 := d - 1) (by omega) (Nat.le_of_eq (Nat.zero_add _)) (Nat.le_of_eq (Nat.zero_add _)) ?_
        refine q_bif_eq (tgt := 52) (pc2 := 38) d_M_layer_35 rfl rfl (fun c17 => ?_) (fun c17 => ?_)
        · refine r_aload_n (x := some 761) (pc2 := 53) d_M_layer_52 rfl rfl ?_
          refine r_bipush (v := (-32 : Int32)) (pc2 := 55) d_M_layer_53 rfl (by decide) ?_
          refine q_callv (M2 := mi_M_refused) (pc2 := 58) d_M_layer_55 rfl k_M_106 cm_M_refused cv_M_refused (sh_761 hS) (by decide) rfl rfl rfl (Nat.le_of_ble_eq_true rfl) (c_M_refused_0 (I := I) hS hR) (d2 := d - 1) (by omega) (Nat.le_of_eq (Nat.zero_add _)) (Nat.le_of_eq (Nat.zero_add _)) ?_
          obtain ⟨I18, hI18⟩ : ∃ x, x = u2 I 765 0 (I 765 0 + nI 1) := ⟨_, rfl⟩
          rw [← hI18]
          refine Run.ret (some (.int ((-32 : Int32)))) d_M_layer_58 ⟨_, rfl⟩ ?_
          first | (exfalso; omega) | exact RQW.bad 0 (by (try simp only [g_layer1, efN, b0fN, b1fN, b2fN, b3fN, b4fN, b5fN, b6fN, b8fN, b9fN, Int.toNat_natCast] at c1 c3 c5 c17); (unfold o_layer); (try dsimp only); (try simp only [g_layer1, efN, b0fN, b1fN, b2fN, b3fN, b4fN, b5fN, b6fN, b8fN, b9fN, Int.toNat_natCast]); (repeat (first | rw [if_pos (by omega)] | rw [if_neg (by omega)])); (try rfl); (all_goals first | rfl | (simp only [a0fN, a1fN, a2fN, a3fN, a4fN, a5fN, a6fN, a8fN, a9fN]; done) | (congr 2; omega) | ((repeat' split) <;> first | rfl | (simp only [a0fN, a1fN, a2fN, a3fN, a4fN, a5fN, a6fN, a8fN, a9fN]; done) | (exfalso; omega) | (congr 2; omega) | skip)); (try rfl)) (by (try simp only [g_layer1, efN, b0fN, b1fN, b2fN, b3fN, b4fN, b5fN, b6fN, b8fN, b9fN, Int.toNat_natCast] at c1 c3 c5 c17); (unfold g_layer); (try dsimp only); (try simp only [g_layer1, efN, b0fN, b1fN, b2fN, b3fN, b4fN, b5fN, b6fN, b8fN, b9fN, Int.toNat_natCast]); (repeat (first | rw [if_pos (by omega)] | rw [if_neg (by omega)])); (try rfl); (all_goals first | rfl | (simp only [a0fN, a1fN, a2fN, a3fN, a4fN, a5fN, a6fN, a8fN, a9fN]; done) | (congr 2; omega) | ((repeat' split) <;> first | rfl | (simp only [a0fN, a1fN, a2fN, a3fN, a4fN, a5fN, a6fN, a8fN, a9fN]; done) | (exfalso; omega) | (congr 2; omega) | skip)); (try rfl)) (by decide) FrS.rf hI18
        · obtain ⟨aN, haN, gaN, rfl, eaN⟩ := nat_of' (show (0 : Int) ≤ (0 : Int) by decide) c17
          refine r_iload (pc2 := 40) d_M_layer_38 rfl rfl ?_
          refine r_i2l (pc2 := 41) d_M_layer_40 rfl ?_
          refine r_iload_n (pc2 := 42) d_M_layer_41 rfl rfl ?_
          refine r_i2l (pc2 := 43) d_M_layer_42 rfl ?_
          refine r_ldc2 (pc2 := 46) d_M_layer_43 rfl k_M_240 ?_
          refine q_calls (M2 := mi_M_in) (pc2 := 49) d_M_layer_46 rfl k_M_68 cm_M_in cs_M_in rfl rfl (Nat.le_of_ble_eq_true rfl) (c_M_in (A := b.toInt) (B := ((aN : Nat) : Int)) (C := (999 : Int)) (toInt64_toInt (rfl)) (toInt64_toInt (nI_toInt (by omega))) (by decide)) (d2 := d - 1) (by omega) (Nat.le_of_eq (Nat.zero_add _)) (Nat.le_of_eq (Nat.zero_add _)) ?_
          refine q_bif_ne (tgt := 59) (pc2 := 52) d_M_layer_49 rfl rfl (fun c19 => ?_) (fun c19 => ?_)
          · refine r_iconst (v := nI 0) (pc2 := 60) d_M_layer_59 rfl (by decide) ?_
            refine r_istore (pc2 := 62) d_M_layer_60 rfl (Nat.le_of_ble_eq_true rfl) ?_
            refine Run.sub (l2 := [(0, .ref 761), (1, .int (nI fN)), (2, .int l), (3, .int (nI aN)), (4, .int b), (5, .int (nI 0))]) ⟨rfl, rfl, rfl, rfl, rfl, rfl, trivial⟩ ?_
            refine l_M_layer hS hR hFc hF12 (F := fN) (l := l) (a := nI aN) (b := b) (by omega) rfl (by omega) (fun K hK1 hK2 => ?_) (fun hn20 => ?_) _ 0 rfl (fun j hj => absurd hj (by omega)) (by omega)
            · obtain ⟨i, hi, hPi⟩ := hK1
              obtain ⟨kx, hkx⟩ := fst1_ex hPi hi
              exact RQW.bad 3 (by (try simp only [g_layer1, efN, b0fN, b1fN, b2fN, b3fN, b4fN, b5fN, b6fN, b8fN, b9fN, eaN, Int.toNat_natCast] at c1 c3 c5 c17 c19); (unfold o_layer); (try dsimp only); (try simp only [g_layer1, efN, b0fN, b1fN, b2fN, b3fN, b4fN, b5fN, b6fN, b8fN, b9fN, eaN, Int.toNat_natCast]); (repeat (first | rw [if_pos (by omega)] | rw [if_neg (by omega)] | (rw [hkx]; try dsimp only))); (try rfl); (all_goals first | rfl | (simp only [a0fN, a1fN, a2fN, a3fN, a4fN, a5fN, a6fN, a8fN, a9fN]; done) | (congr 2; omega) | ((repeat' split) <;> first | rfl | (simp only [a0fN, a1fN, a2fN, a3fN, a4fN, a5fN, a6fN, a8fN, a9fN]; done) | (exfalso; omega) | (congr 2; omega) | skip))) (by (try simp only [g_layer1, efN, b0fN, b1fN, b2fN, b3fN, b4fN, b5fN, b6fN, b8fN, b9fN, eaN, Int.toNat_natCast] at c1 c3 c5 c17 c19); (unfold g_layer); (try dsimp only); (try simp only [g_layer1, efN, b0fN, b1fN, b2fN, b3fN, b4fN, b5fN, b6fN, b8fN, b9fN, eaN, Int.toNat_natCast]); (repeat (first | rw [if_pos (by omega)] | rw [if_neg (by omega)] | (rw [hkx]; try dsimp only))); (try rfl); (all_goals first | rfl | (simp only [a0fN, a1fN, a2fN, a3fN, a4fN, a5fN, a6fN, a8fN, a9fN]; done) | (congr 2; omega) | ((repeat' split) <;> first | rfl | (simp only [a0fN, a1fN, a2fN, a3fN, a4fN, a5fN, a6fN, a8fN, a9fN]; done) | (exfalso; omega) | (congr 2; omega) | skip))) (by decide) FrS.rf hK2
            refine r_aload_n (x := some 761) (pc2 := 146) d_M_layer_145 rfl rfl ?_
            refine r_iload_n (pc2 := 147) d_M_layer_146 rfl rfl ?_
            refine r_bipush (v := nI 7) (pc2 := 149) d_M_layer_147 rfl (by decide) ?_
            refine r_iload_n (pc2 := 150) d_M_layer_149 rfl rfl ?_
            refine q_callvV (M2 := mi_M_is) (pc2 := 153) d_M_layer_150 rfl k_M_157 cm_M_is cv_M_is (sh_761 hS) (by decide) rfl rfl rfl (Nat.le_of_ble_eq_true rfl) (c_M_is (I := I) (F := fN) (W := 7) (v := l) hS hR (by omega)) (d2 := d - 1) (by omega) (Nat.le_of_eq (Nat.zero_add _)) (Nat.le_of_eq (Nat.zero_add _)) ?_
            obtain ⟨I21, hI21⟩ : ∃ x, x = u2 I 762 (174 + 84 * fN + 7) l := ⟨_, rfl⟩
            rw [← hI21]
            refine r_aload_n (x := some 761) (pc2 := 154) d_M_layer_153 rfl rfl ?_
            refine r_iload_n (pc2 := 155) d_M_layer_154 rfl rfl ?_
            refine r_bipush (v := nI 8) (pc2 := 157) d_M_layer_155 rfl (by decide) ?_
            refine r_iload_n (pc2 := 158) d_M_layer_157 rfl rfl ?_
            refine q_if_ge (tgt := 165) (A := l.toInt) (pc2 := 161) d_M_layer_158 rfl rfl (rfl) (fun c22 => ?_) (fun c22 => ?_)
            · refine r_iload_n (pc2 := 166) d_M_layer_165 rfl rfl ?_
              refine q_callvV (M2 := mi_M_is) (pc2 := 169) d_M_layer_166 rfl k_M_157 cm_M_is cv_M_is (sh_761 hS) (by decide) rfl rfl rfl (Nat.le_of_ble_eq_true rfl) (c_M_is (I := I21) (F := fN) (W := 8) (v := nI aN) hS hR (by omega)) (d2 := d - 1) (by omega) (Nat.le_of_eq (Nat.zero_add _)) (Nat.le_of_eq (Nat.zero_add _)) ?_
              obtain ⟨I23, hI23⟩ : ∃ x, x = u2 I21 762 (174 + 84 * fN + 8) (nI aN) := ⟨_, rfl⟩
              rw [← hI23]
              refine r_aload_n (x := some 761) (pc2 := 170) d_M_layer_169 rfl rfl ?_
              refine r_iload_n (pc2 := 171) d_M_layer_170 rfl rfl ?_
              refine r_bipush (v := nI 9) (pc2 := 173) d_M_layer_171 rfl (by decide) ?_
              refine r_iload_n (pc2 := 174) d_M_layer_173 rfl rfl ?_
              refine q_if_ge (tgt := 181) (A := l.toInt) (pc2 := 177) d_M_layer_174 rfl rfl (rfl) (fun c24 => ?_) (fun c24 => ?_)
              · refine r_iload (pc2 := 183) d_M_layer_181 rfl rfl ?_
                refine q_callvV (M2 := mi_M_is) (pc2 := 186) d_M_layer_183 rfl k_M_157 cm_M_is cv_M_is (sh_761 hS) (by decide) rfl rfl rfl (Nat.le_of_ble_eq_true rfl) (c_M_is (I := I23) (F := fN) (W := 9) (v := b) hS hR (by omega)) (d2 := d - 1) (by omega) (Nat.le_of_eq (Nat.zero_add _)) (Nat.le_of_eq (Nat.zero_add _)) ?_
                obtain ⟨I25, hI25⟩ : ∃ x, x = u2 I23 762 (174 + 84 * fN + 9) b := ⟨_, rfl⟩
                rw [← hI25]
                refine r_iconst (v := nI 1) (pc2 := 187) d_M_layer_186 rfl (by decide) ?_
                refine Run.ret (some (.int (nI 1))) d_M_layer_187 ⟨_, rfl⟩ ?_
                first | (exfalso; omega) | exact RQW.val (by (try simp only [g_layer1, efN, b0fN, b1fN, b2fN, b3fN, b4fN, b5fN, b6fN, b8fN, b9fN, eaN, Int.toNat_natCast] at c1 c3 c5 c17 c19 c22 c24); (unfold o_layer); (try dsimp only); (try simp only [g_layer1, efN, b0fN, b1fN, b2fN, b3fN, b4fN, b5fN, b6fN, b8fN, b9fN, eaN, Int.toNat_natCast]); (repeat (first | rw [if_pos (by omega)] | rw [if_neg (by omega)] | (rw [hn20]; try dsimp only))); (try rfl); (all_goals first | rfl | (simp only [a0fN, a1fN, a2fN, a3fN, a4fN, a5fN, a6fN, a8fN, a9fN]; done) | (congr 2; omega) | ((repeat' split) <;> first | rfl | (simp only [a0fN, a1fN, a2fN, a3fN, a4fN, a5fN, a6fN, a8fN, a9fN]; done) | (exfalso; omega) | (congr 2; omega) | skip))) (by (try simp only [g_layer1, efN, b0fN, b1fN, b2fN, b3fN, b4fN, b5fN, b6fN, b8fN, b9fN, eaN, Int.toNat_natCast] at c1 c3 c5 c17 c19 c22 c24); (unfold g_layer); (try dsimp only); (try simp only [g_layer1, efN, b0fN, b1fN, b2fN, b3fN, b4fN, b5fN, b6fN, b8fN, b9fN, eaN, Int.toNat_natCast]); (repeat (first | rw [if_pos (by omega)] | rw [if_neg (by omega)] | (rw [hn20]; try dsimp only))); exact (setR_put (setR_put (setR_put FrS.rf.set hI21) hI23) hI25))
              · refine r_iconst (v := nI 0) (pc2 := 178) d_M_layer_177 rfl (by decide) ?_
                refine r_goto (tgt := 183) d_M_layer_178 rfl ?_
                refine q_callvV (M2 := mi_M_is) (pc2 := 186) d_M_layer_183 rfl k_M_157 cm_M_is cv_M_is (sh_761 hS) (by decide) rfl rfl rfl (Nat.le_of_ble_eq_true rfl) (c_M_is (I := I23) (F := fN) (W := 9) (v := nI 0) hS hR (by omega)) (d2 := d - 1) (by omega) (Nat.le_of_eq (Nat.zero_add _)) (Nat.le_of_eq (Nat.zero_add _)) ?_
                obtain ⟨I26, hI26⟩ : ∃ x, x = u2 I23 762 (174 + 84 * fN + 9) (nI 0) := ⟨_, rfl⟩
                rw [← hI26]
                refine r_iconst (v := nI 1) (pc2 := 187) d_M_layer_186 rfl (by decide) ?_
                refine Run.ret (some (.int (nI 1))) d_M_layer_187 ⟨_, rfl⟩ ?_
                first | (exfalso; omega) | exact RQW.val (by (try simp only [g_layer1, efN, b0fN, b1fN, b2fN, b3fN, b4fN, b5fN, b6fN, b8fN, b9fN, eaN, Int.toNat_natCast] at c1 c3 c5 c17 c19 c22 c24); (unfold o_layer); (try dsimp only); (try simp only [g_layer1, efN, b0fN, b1fN, b2fN, b3fN, b4fN, b5fN, b6fN, b8fN, b9fN, eaN, Int.toNat_natCast]); (repeat (first | rw [if_pos (by omega)] | rw [if_neg (by omega)] | (rw [hn20]; try dsimp only))); (try rfl); (all_goals first | rfl | (simp only [a0fN, a1fN, a2fN, a3fN, a4fN, a5fN, a6fN, a8fN, a9fN]; done) | (congr 2; omega) | ((repeat' split) <;> first | rfl | (simp only [a0fN, a1fN, a2fN, a3fN, a4fN, a5fN, a6fN, a8fN, a9fN]; done) | (exfalso; omega) | (congr 2; omega) | skip))) (by (try simp only [g_layer1, efN, b0fN, b1fN, b2fN, b3fN, b4fN, b5fN, b6fN, b8fN, b9fN, eaN, Int.toNat_natCast] at c1 c3 c5 c17 c19 c22 c24); (unfold g_layer); (try dsimp only); (try simp only [g_layer1, efN, b0fN, b1fN, b2fN, b3fN, b4fN, b5fN, b6fN, b8fN, b9fN, eaN, Int.toNat_natCast]); (repeat (first | rw [if_pos (by omega)] | rw [if_neg (by omega)] | (rw [hn20]; try dsimp only))); exact (setR_put (setR_put (setR_put FrS.rf.set hI21) hI23) hI26))
            · refine r_iconst (v := nI 0) (pc2 := 162) d_M_layer_161 rfl (by decide) ?_
              refine r_goto (tgt := 166) d_M_layer_162 rfl ?_
              refine q_callvV (M2 := mi_M_is) (pc2 := 169) d_M_layer_166 rfl k_M_157 cm_M_is cv_M_is (sh_761 hS) (by decide) rfl rfl rfl (Nat.le_of_ble_eq_true rfl) (c_M_is (I := I21) (F := fN) (W := 8) (v := nI 0) hS hR (by omega)) (d2 := d - 1) (by omega) (Nat.le_of_eq (Nat.zero_add _)) (Nat.le_of_eq (Nat.zero_add _)) ?_
              obtain ⟨I27, hI27⟩ : ∃ x, x = u2 I21 762 (174 + 84 * fN + 8) (nI 0) := ⟨_, rfl⟩
              rw [← hI27]
              refine r_aload_n (x := some 761) (pc2 := 170) d_M_layer_169 rfl rfl ?_
              refine r_iload_n (pc2 := 171) d_M_layer_170 rfl rfl ?_
              refine r_bipush (v := nI 9) (pc2 := 173) d_M_layer_171 rfl (by decide) ?_
              refine r_iload_n (pc2 := 174) d_M_layer_173 rfl rfl ?_
              refine q_if_ge (tgt := 181) (A := l.toInt) (pc2 := 177) d_M_layer_174 rfl rfl (rfl) (fun c28 => ?_) (fun c28 => ?_)
              · refine r_iload (pc2 := 183) d_M_layer_181 rfl rfl ?_
                refine q_callvV (M2 := mi_M_is) (pc2 := 186) d_M_layer_183 rfl k_M_157 cm_M_is cv_M_is (sh_761 hS) (by decide) rfl rfl rfl (Nat.le_of_ble_eq_true rfl) (c_M_is (I := I27) (F := fN) (W := 9) (v := b) hS hR (by omega)) (d2 := d - 1) (by omega) (Nat.le_of_eq (Nat.zero_add _)) (Nat.le_of_eq (Nat.zero_add _)) ?_
                obtain ⟨I29, hI29⟩ : ∃ x, x = u2 I27 762 (174 + 84 * fN + 9) b := ⟨_, rfl⟩
                rw [← hI29]
                refine r_iconst (v := nI 1) (pc2 := 187) d_M_layer_186 rfl (by decide) ?_
                refine Run.ret (some (.int (nI 1))) d_M_layer_187 ⟨_, rfl⟩ ?_
                first | (exfalso; omega) | exact RQW.val (by (try simp only [g_layer1, efN, b0fN, b1fN, b2fN, b3fN, b4fN, b5fN, b6fN, b8fN, b9fN, eaN, Int.toNat_natCast] at c1 c3 c5 c17 c19 c22 c28); (unfold o_layer); (try dsimp only); (try simp only [g_layer1, efN, b0fN, b1fN, b2fN, b3fN, b4fN, b5fN, b6fN, b8fN, b9fN, eaN, Int.toNat_natCast]); (repeat (first | rw [if_pos (by omega)] | rw [if_neg (by omega)] | (rw [hn20]; try dsimp only))); (try rfl); (all_goals first | rfl | (simp only [a0fN, a1fN, a2fN, a3fN, a4fN, a5fN, a6fN, a8fN, a9fN]; done) | (congr 2; omega) | ((repeat' split) <;> first | rfl | (simp only [a0fN, a1fN, a2fN, a3fN, a4fN, a5fN, a6fN, a8fN, a9fN]; done) | (exfalso; omega) | (congr 2; omega) | skip))) (by (try simp only [g_layer1, efN, b0fN, b1fN, b2fN, b3fN, b4fN, b5fN, b6fN, b8fN, b9fN, eaN, Int.toNat_natCast] at c1 c3 c5 c17 c19 c22 c28); (unfold g_layer); (try dsimp only); (try simp only [g_layer1, efN, b0fN, b1fN, b2fN, b3fN, b4fN, b5fN, b6fN, b8fN, b9fN, eaN, Int.toNat_natCast]); (repeat (first | rw [if_pos (by omega)] | rw [if_neg (by omega)] | (rw [hn20]; try dsimp only))); exact (setR_put (setR_put (setR_put FrS.rf.set hI21) hI27) hI29))
              · refine r_iconst (v := nI 0) (pc2 := 178) d_M_layer_177 rfl (by decide) ?_
                refine r_goto (tgt := 183) d_M_layer_178 rfl ?_
                refine q_callvV (M2 := mi_M_is) (pc2 := 186) d_M_layer_183 rfl k_M_157 cm_M_is cv_M_is (sh_761 hS) (by decide) rfl rfl rfl (Nat.le_of_ble_eq_true rfl) (c_M_is (I := I27) (F := fN) (W := 9) (v := nI 0) hS hR (by omega)) (d2 := d - 1) (by omega) (Nat.le_of_eq (Nat.zero_add _)) (Nat.le_of_eq (Nat.zero_add _)) ?_
                obtain ⟨I30, hI30⟩ : ∃ x, x = u2 I27 762 (174 + 84 * fN + 9) (nI 0) := ⟨_, rfl⟩
                rw [← hI30]
                refine r_iconst (v := nI 1) (pc2 := 187) d_M_layer_186 rfl (by decide) ?_
                refine Run.ret (some (.int (nI 1))) d_M_layer_187 ⟨_, rfl⟩ ?_
                first | (exfalso; omega) | exact RQW.val (by (try simp only [g_layer1, efN, b0fN, b1fN, b2fN, b3fN, b4fN, b5fN, b6fN, b8fN, b9fN, eaN, Int.toNat_natCast] at c1 c3 c5 c17 c19 c22 c28); (unfold o_layer); (try dsimp only); (try simp only [g_layer1, efN, b0fN, b1fN, b2fN, b3fN, b4fN, b5fN, b6fN, b8fN, b9fN, eaN, Int.toNat_natCast]); (repeat (first | rw [if_pos (by omega)] | rw [if_neg (by omega)] | (rw [hn20]; try dsimp only))); (try rfl); (all_goals first | rfl | (simp only [a0fN, a1fN, a2fN, a3fN, a4fN, a5fN, a6fN, a8fN, a9fN]; done) | (congr 2; omega) | ((repeat' split) <;> first | rfl | (simp only [a0fN, a1fN, a2fN, a3fN, a4fN, a5fN, a6fN, a8fN, a9fN]; done) | (exfalso; omega) | (congr 2; omega) | skip))) (by (try simp only [g_layer1, efN, b0fN, b1fN, b2fN, b3fN, b4fN, b5fN, b6fN, b8fN, b9fN, eaN, Int.toNat_natCast] at c1 c3 c5 c17 c19 c22 c28); (unfold g_layer); (try dsimp only); (try simp only [g_layer1, efN, b0fN, b1fN, b2fN, b3fN, b4fN, b5fN, b6fN, b8fN, b9fN, eaN, Int.toNat_natCast]); (repeat (first | rw [if_pos (by omega)] | rw [if_neg (by omega)] | (rw [hn20]; try dsimp only))); exact (setR_put (setR_put (setR_put FrS.rf.set hI21) hI27) hI30))
          · refine r_aload_n (x := some 761) (pc2 := 53) d_M_layer_52 rfl rfl ?_
            refine r_bipush (v := (-32 : Int32)) (pc2 := 55) d_M_layer_53 rfl (by decide) ?_
            refine q_callv (M2 := mi_M_refused) (pc2 := 58) d_M_layer_55 rfl k_M_106 cm_M_refused cv_M_refused (sh_761 hS) (by decide) rfl rfl rfl (Nat.le_of_ble_eq_true rfl) (c_M_refused_0 (I := I) hS hR) (d2 := d - 1) (by omega) (Nat.le_of_eq (Nat.zero_add _)) (Nat.le_of_eq (Nat.zero_add _)) ?_
            obtain ⟨I31, hI31⟩ : ∃ x, x = u2 I 765 0 (I 765 0 + nI 1) := ⟨_, rfl⟩
            rw [← hI31]
            refine Run.ret (some (.int ((-32 : Int32)))) d_M_layer_58 ⟨_, rfl⟩ ?_
            first | (exfalso; omega) | exact RQW.bad 0 (by (try simp only [g_layer1, efN, b0fN, b1fN, b2fN, b3fN, b4fN, b5fN, b6fN, b8fN, b9fN, eaN, Int.toNat_natCast] at c1 c3 c5 c17 c19); (unfold o_layer); (try dsimp only); (try simp only [g_layer1, efN, b0fN, b1fN, b2fN, b3fN, b4fN, b5fN, b6fN, b8fN, b9fN, eaN, Int.toNat_natCast]); (repeat (first | rw [if_pos (by omega)] | rw [if_neg (by omega)])); (try rfl); (all_goals first | rfl | (simp only [a0fN, a1fN, a2fN, a3fN, a4fN, a5fN, a6fN, a8fN, a9fN]; done) | (congr 2; omega) | ((repeat' split) <;> first | rfl | (simp only [a0fN, a1fN, a2fN, a3fN, a4fN, a5fN, a6fN, a8fN, a9fN]; done) | (exfalso; omega) | (congr 2; omega) | skip)); (try rfl)) (by (try simp only [g_layer1, efN, b0fN, b1fN, b2fN, b3fN, b4fN, b5fN, b6fN, b8fN, b9fN, eaN, Int.toNat_natCast] at c1 c3 c5 c17 c19); (unfold g_layer); (try dsimp only); (try simp only [g_layer1, efN, b0fN, b1fN, b2fN, b3fN, b4fN, b5fN, b6fN, b8fN, b9fN, eaN, Int.toNat_natCast]); (repeat (first | rw [if_pos (by omega)] | rw [if_neg (by omega)])); (try rfl); (all_goals first | rfl | (simp only [a0fN, a1fN, a2fN, a3fN, a4fN, a5fN, a6fN, a8fN, a9fN]; done) | (congr 2; omega) | ((repeat' split) <;> first | rfl | (simp only [a0fN, a1fN, a2fN, a3fN, a4fN, a5fN, a6fN, a8fN, a9fN]; done) | (exfalso; omega) | (congr 2; omega) | skip)); (try rfl)) (by decide) FrS.rf hI31
theorem l_M_sum_r {d : Nat} {I : Nat → Nat → Int32} {R : Nat → Nat → Option Nat} {L : Nat → Nat → Int64} {sh : Nat → Nat × Nat} {N : Nat} (hS : ShOK sh) (hR : RfOK R) {kA fA cA gA nk nt : Nat} (hT : TRf R sh kA fA cA gA nk) (hTn : TNe kA fA cA gA) (hV : TV (I kA) (I fA) (I cA) nt) (hnt : nt ≤ nk) (hnk : nk ≤ 1000000) {nP nF : Nat} (hW : WFA (I 762) nP nF nt) {Q : Option Value → HS → Prop} (hq : Q (some (.int (nI (smN (nRof (I 762)) nF)))) (I, R, L, sh, N)) (hd : 2 ≤ d) : ∀ (n_ : Nat) (i : Nat), nF - i = n_ → (i ≤ nF) → Run mi_M_sum d 0 0 4 [(0, .ref 761), (1, .int (nI 4)), (2, .int (nI (smN (nRof (I 762)) i))), (3, .int (nI i))] [] (I, R, L, sh, N) Q := by
  intro n_
  induction n_ using Nat.strongRecOn with | ind n_ ih_ => ?_
  intro i hn_ v0_
  obtain ⟨hPc, hP24, hFc, hF12, hWF, hWP⟩ := id hW
  refine r_iload_n (pc2 := 5) d_M_sum_4 rfl rfl ?_
  refine r_aload_n (x := some 761) (pc2 := 6) d_M_sum_5 rfl rfl ?_
  refine q_getR (x := some 762) (pc2 := 9) d_M_sum_6 rfl k_M_9 rfl (sh_761 hS) (rf_761_0 hR) ?_
  refine r_iconst (v := nI 1) (pc2 := 10) d_M_sum_9 rfl (by decide) ?_
  refine q_iaload (q := 1) (x := nI nF) (pc2 := 11) d_M_sum_10 rfl (sh_762 hS) (nI_toInt (by omega)) (by omega) hFc ?_
  refine q_icmp_ge (tgt := 41) (A := ((i : Nat) : Int)) (B := ((nF : Nat) : Int)) (pc2 := 14) d_M_sum_11 rfl rfl (nI_toInt (by omega)) (nI_toInt (by omega)) (fun c1 => ?_) (fun c1 => ?_)
  · refine r_iload_n (pc2 := 42) d_M_sum_41 rfl rfl ?_
    refine Run.ret (some (.int (nI (smN (nRof (I 762)) i)))) d_M_sum_42 ⟨_, rfl⟩ ?_
    rw [show i = nF by omega]; exact hq
  · obtain ⟨tpi, kli, ski, fbi, nRi, nNi, nOi, fri, toi, ⟨a0i, b0i, cc0i, dd0i⟩, ⟨a1i, b1i, cc1i, dd1i⟩, ⟨a2i, b2i, cc2i, dd2i⟩, ⟨a3i, b3i, cc3i, dd3i⟩, ⟨a4i, b4i, cc4i, dd4i⟩, ⟨a5i, b5i, cc5i, dd5i⟩, ⟨a6i, b6i, cc6i, dd6i⟩, ⟨a8i, b8i, cc8i, dd8i⟩, ⟨a9i, b9i, cc9i, dd9i⟩⟩ := wfn (hWF i (by omega))
    obtain ⟨-, -, -, -, -, -, -, w7i, -, -, wNi, wRi, wKi, wOi⟩ := hWF i (by omega)
    refine r_iload_n (pc2 := 15) d_M_sum_14 rfl rfl ?_
    refine r_iload_n (pc2 := 16) d_M_sum_15 rfl rfl ?_
    refine q_if_ge (tgt := 27) (A := (4 : Int)) (pc2 := 19) d_M_sum_16 rfl rfl (nI_toInt (by omega)) (fun c2 => ?_) (fun c2 => ?_)
    rotate_left
    · exfalso; omega
    refine r_aload_n (x := some 761) (pc2 := 28) d_M_sum_27 rfl rfl ?_
    refine r_iload_n (pc2 := 29) d_M_sum_28 rfl rfl ?_
    refine r_iload_n (pc2 := 30) d_M_sum_29 rfl rfl ?_
    refine q_callv (M2 := mi_M_of) (pc2 := 33) d_M_sum_30 rfl k_M_76 cm_M_of cv_M_of (sh_761 hS) (by decide) rfl rfl rfl (Nat.le_of_ble_eq_true rfl) (c_M_of (I := I) (F := i) (W := 4) hS hR (by omega)) (d2 := d - 1) (by omega) (Nat.le_of_eq (Nat.zero_add _)) (Nat.le_of_eq (Nat.zero_add _)) ?_
    refine q_top (y := nI nRi) (a4i) ?_
    refine q_iaddN (pc2 := 34) d_M_sum_33 rfl ?_
    refine q_top (y := nI (smN (nRof (I 762)) (i + 1))) (by rw [smN_s]; congr 2; unfold nRof; rw [b4i, Int.toNat_natCast]) ?_
    refine r_istore_n (pc2 := 35) d_M_sum_34 rfl rfl (Nat.le_of_ble_eq_true rfl) ?_
    refine q_iinc (b := 1) (pc2 := 38) d_M_sum_35 rfl rfl (by decide) (Nat.le_of_ble_eq_true rfl) ?_
    refine r_goto (tgt := 4) d_M_sum_38 rfl ?_
    refine Run.sub (l2 := [(0, .ref 761), (1, .int (nI 4)), (2, .int (nI (smN (nRof (I 762)) (i + 1)))), (3, .int (nI (i + 1)))]) ⟨rfl, rfl, rfl, rfl, trivial⟩ ?_
    exact ih_ (nF - (i + 1)) (by omega) (i + 1) rfl (by omega)
theorem c_M_sum_r {d : Nat} {I : Nat → Nat → Int32} {R : Nat → Nat → Option Nat} {L : Nat → Nat → Int64} {sh : Nat → Nat × Nat} {N : Nat} (hS : ShOK sh) (hR : RfOK R) {kA fA cA gA nk nt : Nat} (hT : TRf R sh kA fA cA gA nk) (hTn : TNe kA fA cA gA) (hV : TV (I kA) (I fA) (I cA) nt) (hnt : nt ≤ nk) (hnk : nk ≤ 1000000) {nP nF : Nat} (hW : WFA (I 762) nP nF nt) (hd : 2 ≤ d) : Me mi_M_sum d 0 0 [.ref 761, .int (nI 4)] (I, R, L, sh, N) (some (.int (nI (smN (nRof (I 762)) nF)))) (I, R, L, sh, N) := by
  refine Mt.of pn_M (Nat.le_of_ble_eq_true rfl) ?_
  show Run mi_M_sum d 0 0 0 [(0, .ref 761), (1, .int (nI 4))] [] (I, R, L, sh, N) _
  refine r_iconst (v := nI 0) (pc2 := 1) d_M_sum_0 rfl (by decide) ?_
  refine r_istore_n (pc2 := 2) d_M_sum_1 rfl rfl (Nat.le_of_ble_eq_true rfl) ?_
  refine r_iconst (v := nI 0) (pc2 := 3) d_M_sum_2 rfl (by decide) ?_
  refine r_istore_n (pc2 := 4) d_M_sum_3 rfl rfl (Nat.le_of_ble_eq_true rfl) ?_
  refine Run.sub (l2 := [(0, .ref 761), (1, .int (nI 4)), (2, .int (nI 0)), (3, .int (nI 0))]) ⟨rfl, rfl, rfl, rfl, trivial⟩ ?_
  exact l_M_sum_r hS hR hT hTn hV hnt hnk hW ⟨rfl, rfl⟩ (by omega) _ 0 rfl (by omega)
theorem l_M_sum_n {d : Nat} {I : Nat → Nat → Int32} {R : Nat → Nat → Option Nat} {L : Nat → Nat → Int64} {sh : Nat → Nat × Nat} {N : Nat} (hS : ShOK sh) (hR : RfOK R) {kA fA cA gA nk nt : Nat} (hT : TRf R sh kA fA cA gA nk) (hTn : TNe kA fA cA gA) (hV : TV (I kA) (I fA) (I cA) nt) (hnt : nt ≤ nk) (hnk : nk ≤ 1000000) {nP nF : Nat} (hW : WFA (I 762) nP nF nt) {Q : Option Value → HS → Prop} (hq : Q (some (.int (nI (smN (nNof (I 762)) nF)))) (I, R, L, sh, N)) (hd : 2 ≤ d) : ∀ (n_ : Nat) (i : Nat), nF - i = n_ → (i ≤ nF) → Run mi_M_sum d 0 0 4 [(0, .ref 761), (1, .int (nI 5)), (2, .int (nI (smN (nNof (I 762)) i))), (3, .int (nI i))] [] (I, R, L, sh, N) Q := by
  intro n_
  induction n_ using Nat.strongRecOn with | ind n_ ih_ => ?_
  intro i hn_ v0_
  obtain ⟨hPc, hP24, hFc, hF12, hWF, hWP⟩ := id hW
  refine r_iload_n (pc2 := 5) d_M_sum_4 rfl rfl ?_
  refine r_aload_n (x := some 761) (pc2 := 6) d_M_sum_5 rfl rfl ?_
  refine q_getR (x := some 762) (pc2 := 9) d_M_sum_6 rfl k_M_9 rfl (sh_761 hS) (rf_761_0 hR) ?_
  refine r_iconst (v := nI 1) (pc2 := 10) d_M_sum_9 rfl (by decide) ?_
  refine q_iaload (q := 1) (x := nI nF) (pc2 := 11) d_M_sum_10 rfl (sh_762 hS) (nI_toInt (by omega)) (by omega) hFc ?_
  refine q_icmp_ge (tgt := 41) (A := ((i : Nat) : Int)) (B := ((nF : Nat) : Int)) (pc2 := 14) d_M_sum_11 rfl rfl (nI_toInt (by omega)) (nI_toInt (by omega)) (fun c1 => ?_) (fun c1 => ?_)
  · refine r_iload_n (pc2 := 42) d_M_sum_41 rfl rfl ?_
    refine Run.ret (some (.int (nI (smN (nNof (I 762)) i)))) d_M_sum_42 ⟨_, rfl⟩ ?_
    rw [show i = nF by omega]; exact hq
  · obtain ⟨tpi, kli, ski, fbi, nRi, nNi, nOi, fri, toi, ⟨a0i, b0i, cc0i, dd0i⟩, ⟨a1i, b1i, cc1i, dd1i⟩, ⟨a2i, b2i, cc2i, dd2i⟩, ⟨a3i, b3i, cc3i, dd3i⟩, ⟨a4i, b4i, cc4i, dd4i⟩, ⟨a5i, b5i, cc5i, dd5i⟩, ⟨a6i, b6i, cc6i, dd6i⟩, ⟨a8i, b8i, cc8i, dd8i⟩, ⟨a9i, b9i, cc9i, dd9i⟩⟩ := wfn (hWF i (by omega))
    obtain ⟨-, -, -, -, -, -, -, w7i, -, -, wNi, wRi, wKi, wOi⟩ := hWF i (by omega)
    refine r_iload_n (pc2 := 15) d_M_sum_14 rfl rfl ?_
    refine r_iload_n (pc2 := 16) d_M_sum_15 rfl rfl ?_
    refine q_if_ge (tgt := 27) (A := (5 : Int)) (pc2 := 19) d_M_sum_16 rfl rfl (nI_toInt (by omega)) (fun c2 => ?_) (fun c2 => ?_)
    rotate_left
    · exfalso; omega
    refine r_aload_n (x := some 761) (pc2 := 28) d_M_sum_27 rfl rfl ?_
    refine r_iload_n (pc2 := 29) d_M_sum_28 rfl rfl ?_
    refine r_iload_n (pc2 := 30) d_M_sum_29 rfl rfl ?_
    refine q_callv (M2 := mi_M_of) (pc2 := 33) d_M_sum_30 rfl k_M_76 cm_M_of cv_M_of (sh_761 hS) (by decide) rfl rfl rfl (Nat.le_of_ble_eq_true rfl) (c_M_of (I := I) (F := i) (W := 5) hS hR (by omega)) (d2 := d - 1) (by omega) (Nat.le_of_eq (Nat.zero_add _)) (Nat.le_of_eq (Nat.zero_add _)) ?_
    refine q_top (y := nI nNi) (a5i) ?_
    refine q_iaddN (pc2 := 34) d_M_sum_33 rfl ?_
    refine q_top (y := nI (smN (nNof (I 762)) (i + 1))) (by rw [smN_s]; congr 2; unfold nNof; rw [b5i, Int.toNat_natCast]) ?_
    refine r_istore_n (pc2 := 35) d_M_sum_34 rfl rfl (Nat.le_of_ble_eq_true rfl) ?_
    refine q_iinc (b := 1) (pc2 := 38) d_M_sum_35 rfl rfl (by decide) (Nat.le_of_ble_eq_true rfl) ?_
    refine r_goto (tgt := 4) d_M_sum_38 rfl ?_
    refine Run.sub (l2 := [(0, .ref 761), (1, .int (nI 5)), (2, .int (nI (smN (nNof (I 762)) (i + 1)))), (3, .int (nI (i + 1)))]) ⟨rfl, rfl, rfl, rfl, trivial⟩ ?_
    exact ih_ (nF - (i + 1)) (by omega) (i + 1) rfl (by omega)
theorem c_M_sum_n {d : Nat} {I : Nat → Nat → Int32} {R : Nat → Nat → Option Nat} {L : Nat → Nat → Int64} {sh : Nat → Nat × Nat} {N : Nat} (hS : ShOK sh) (hR : RfOK R) {kA fA cA gA nk nt : Nat} (hT : TRf R sh kA fA cA gA nk) (hTn : TNe kA fA cA gA) (hV : TV (I kA) (I fA) (I cA) nt) (hnt : nt ≤ nk) (hnk : nk ≤ 1000000) {nP nF : Nat} (hW : WFA (I 762) nP nF nt) (hd : 2 ≤ d) : Me mi_M_sum d 0 0 [.ref 761, .int (nI 5)] (I, R, L, sh, N) (some (.int (nI (smN (nNof (I 762)) nF)))) (I, R, L, sh, N) := by
  refine Mt.of pn_M (Nat.le_of_ble_eq_true rfl) ?_
  show Run mi_M_sum d 0 0 0 [(0, .ref 761), (1, .int (nI 5))] [] (I, R, L, sh, N) _
  refine r_iconst (v := nI 0) (pc2 := 1) d_M_sum_0 rfl (by decide) ?_
  refine r_istore_n (pc2 := 2) d_M_sum_1 rfl rfl (Nat.le_of_ble_eq_true rfl) ?_
  refine r_iconst (v := nI 0) (pc2 := 3) d_M_sum_2 rfl (by decide) ?_
  refine r_istore_n (pc2 := 4) d_M_sum_3 rfl rfl (Nat.le_of_ble_eq_true rfl) ?_
  refine Run.sub (l2 := [(0, .ref 761), (1, .int (nI 5)), (2, .int (nI 0)), (3, .int (nI 0))]) ⟨rfl, rfl, rfl, rfl, trivial⟩ ?_
  exact l_M_sum_n hS hR hT hTn hV hnt hnk hW ⟨rfl, rfl⟩ (by omega) _ 0 rfl (by omega)
theorem l_M_sum_k {d : Nat} {I : Nat → Nat → Int32} {R : Nat → Nat → Option Nat} {L : Nat → Nat → Int64} {sh : Nat → Nat × Nat} {N : Nat} (hS : ShOK sh) (hR : RfOK R) {kA fA cA gA nk nt : Nat} (hT : TRf R sh kA fA cA gA nk) (hTn : TNe kA fA cA gA) (hV : TV (I kA) (I fA) (I cA) nt) (hnt : nt ≤ nk) (hnk : nk ≤ 1000000) {nP nF : Nat} (hW : WFA (I 762) nP nF nt) {Q : Option Value → HS → Prop} (hq : Q (some (.int (nI (smN (fun F => cnt (keptP (I 762) F) nP) nF)))) (I, R, L, sh, N)) (hd : 2 ≤ d) : ∀ (n_ : Nat) (i : Nat), nF - i = n_ → (i ≤ nF) → Run mi_M_sum d 0 0 4 [(0, .ref 761), (1, .int ((-1 : Int32))), (2, .int (nI (smN (fun F => cnt (keptP (I 762) F) nP) i))), (3, .int (nI i))] [] (I, R, L, sh, N) Q := by
  intro n_
  induction n_ using Nat.strongRecOn with | ind n_ ih_ => ?_
  intro i hn_ v0_
  obtain ⟨hPc, hP24, hFc, hF12, hWF, hWP⟩ := id hW
  refine r_iload_n (pc2 := 5) d_M_sum_4 rfl rfl ?_
  refine r_aload_n (x := some 761) (pc2 := 6) d_M_sum_5 rfl rfl ?_
  refine q_getR (x := some 762) (pc2 := 9) d_M_sum_6 rfl k_M_9 rfl (sh_761 hS) (rf_761_0 hR) ?_
  refine r_iconst (v := nI 1) (pc2 := 10) d_M_sum_9 rfl (by decide) ?_
  refine q_iaload (q := 1) (x := nI nF) (pc2 := 11) d_M_sum_10 rfl (sh_762 hS) (nI_toInt (by omega)) (by omega) hFc ?_
  refine q_icmp_ge (tgt := 41) (A := ((i : Nat) : Int)) (B := ((nF : Nat) : Int)) (pc2 := 14) d_M_sum_11 rfl rfl (nI_toInt (by omega)) (nI_toInt (by omega)) (fun c1 => ?_) (fun c1 => ?_)
  · refine r_iload_n (pc2 := 42) d_M_sum_41 rfl rfl ?_
    refine Run.ret (some (.int (nI (smN (fun F => cnt (keptP (I 762) F) nP) i)))) d_M_sum_42 ⟨_, rfl⟩ ?_
    rw [show i = nF by omega]; exact hq
  · refine r_iload_n (pc2 := 15) d_M_sum_14 rfl rfl ?_
    refine r_iload_n (pc2 := 16) d_M_sum_15 rfl rfl ?_
    refine q_if_ge (tgt := 27) (A := (-1 : Int)) (pc2 := 19) d_M_sum_16 rfl rfl (by decide) (fun c2 => ?_) (fun c2 => ?_)
    · exfalso; omega
    refine r_aload_n (x := some 761) (pc2 := 20) d_M_sum_19 rfl rfl ?_
    refine r_iload_n (pc2 := 21) d_M_sum_20 rfl rfl ?_
    refine q_callv (M2 := mi_M_keptMany) (pc2 := 24) d_M_sum_21 rfl k_M_260 cm_M_keptMany cv_M_keptMany (sh_761 hS) (by decide) rfl rfl rfl (Nat.le_of_ble_eq_true rfl) (c_M_keptMany (F := i) hS hR hPc hP24 (by omega) (by omega)) (d2 := d - 1) (by omega) (Nat.le_of_eq (Nat.zero_add _)) (Nat.le_of_eq (Nat.zero_add _)) ?_
    refine r_goto (tgt := 33) d_M_sum_24 rfl ?_
    refine q_iaddN (pc2 := 34) d_M_sum_33 rfl ?_
    refine q_top (y := nI (smN (fun F => cnt (keptP (I 762) F) nP) (i + 1))) rfl ?_
    refine r_istore_n (pc2 := 35) d_M_sum_34 rfl rfl (Nat.le_of_ble_eq_true rfl) ?_
    refine q_iinc (b := 1) (pc2 := 38) d_M_sum_35 rfl rfl (by decide) (Nat.le_of_ble_eq_true rfl) ?_
    refine r_goto (tgt := 4) d_M_sum_38 rfl ?_
    refine Run.sub (l2 := [(0, .ref 761), (1, .int ((-1 : Int32))), (2, .int (nI (smN (fun F => cnt (keptP (I 762) F) nP) (i + 1)))), (3, .int (nI (i + 1)))]) ⟨rfl, rfl, rfl, rfl, trivial⟩ ?_
    exact ih_ (nF - (i + 1)) (by omega) (i + 1) rfl (by omega)
theorem c_M_sum_k {d : Nat} {I : Nat → Nat → Int32} {R : Nat → Nat → Option Nat} {L : Nat → Nat → Int64} {sh : Nat → Nat × Nat} {N : Nat} (hS : ShOK sh) (hR : RfOK R) {kA fA cA gA nk nt : Nat} (hT : TRf R sh kA fA cA gA nk) (hTn : TNe kA fA cA gA) (hV : TV (I kA) (I fA) (I cA) nt) (hnt : nt ≤ nk) (hnk : nk ≤ 1000000) {nP nF : Nat} (hW : WFA (I 762) nP nF nt) (hd : 2 ≤ d) : Me mi_M_sum d 0 0 [.ref 761, .int (-1 : Int32)] (I, R, L, sh, N) (some (.int (nI (smN (fun F => cnt (keptP (I 762) F) nP) nF)))) (I, R, L, sh, N) := by
  refine Mt.of pn_M (Nat.le_of_ble_eq_true rfl) ?_
  show Run mi_M_sum d 0 0 0 [(0, .ref 761), (1, .int (-1 : Int32))] [] (I, R, L, sh, N) _
  refine r_iconst (v := nI 0) (pc2 := 1) d_M_sum_0 rfl (by decide) ?_
  refine r_istore_n (pc2 := 2) d_M_sum_1 rfl rfl (Nat.le_of_ble_eq_true rfl) ?_
  refine r_iconst (v := nI 0) (pc2 := 3) d_M_sum_2 rfl (by decide) ?_
  refine r_istore_n (pc2 := 4) d_M_sum_3 rfl rfl (Nat.le_of_ble_eq_true rfl) ?_
  refine Run.sub (l2 := [(0, .ref 761), (1, .int ((-1 : Int32))), (2, .int (nI 0)), (3, .int (nI 0))]) ⟨rfl, rfl, rfl, rfl, trivial⟩ ?_
  exact l_M_sum_k hS hR hT hTn hV hnt hnk hW ⟨rfl, rfl⟩ (by omega) _ 0 rfl (by omega)
theorem l_M_held {d : Nat} {I : Nat → Nat → Int32} {R : Nat → Nat → Option Nat} {L : Nat → Nat → Int64} {sh : Nat → Nat × Nat} {N : Nat} (hS : ShOK sh) (hR : RfOK R) {P : Nat → Bool} (hP : ∀ s, P s = decide (0 ≤ (I 777 s).toInt)) {Q : Option Value → HS → Prop} (hq : Q (some (.int (nI (cnt P 8)))) (I, R, L, sh, N)) : ∀ (n_ : Nat) (i : Nat), 8 - i = n_ → (i ≤ 8) → Run mi_M_held d 0 0 4 [(0, .ref 761), (1, .int (nI (cnt P i))), (2, .int (nI i))] [] (I, R, L, sh, N) Q := by
  intro n_
  induction n_ using Nat.strongRecOn with | ind n_ ih_ => ?_
  intro i hn_ v0_
  refine r_iload_n (pc2 := 5) d_M_held_4 rfl rfl ?_
  refine r_bipush (v := nI 8) (pc2 := 7) d_M_held_5 rfl (by decide) ?_
  refine q_icmp_ge (tgt := 33) (A := ((i : Nat) : Int)) (B := (8 : Int)) (pc2 := 10) d_M_held_7 rfl rfl (nI_toInt (by omega)) (nI_toInt (by omega)) (fun c1 => ?_) (fun c1 => ?_)
  · refine r_iload_n (pc2 := 34) d_M_held_33 rfl rfl ?_
    refine Run.ret (some (.int (nI (cnt P i)))) d_M_held_34 ⟨_, rfl⟩ ?_
    rw [show i = 8 by omega]; exact hq
  · refine r_iload_n (pc2 := 11) d_M_held_10 rfl rfl ?_
    refine r_aload_n (x := some 761) (pc2 := 12) d_M_held_11 rfl rfl ?_
    refine q_getR (x := some 777) (pc2 := 15) d_M_held_12 rfl k_M_55 rfl (sh_761 hS) (rf_761_27 hR) ?_
    refine r_iload_n (pc2 := 16) d_M_held_15 rfl rfl ?_
    refine q_iaload (q := i) (x := I 777 i) (pc2 := 17) d_M_held_16 rfl (sh_777 hS) (nI_toInt (by omega)) (by omega) rfl ?_
    refine q_if_lt (tgt := 24) (A := (I 777 i).toInt) (pc2 := 20) d_M_held_17 rfl rfl (rfl) (fun c2 => ?_) (fun c2 => ?_)
    · refine r_iconst (v := nI 0) (pc2 := 25) d_M_held_24 rfl (by decide) ?_
      refine q_iaddN (pc2 := 26) d_M_held_25 rfl ?_
      refine q_top (y := nI (cnt P (i + 1))) (by rw [cnt_s, if_neg (by rw [hP]; simp only [decide_eq_true_eq]; omega)]) ?_
      refine r_istore_n (pc2 := 27) d_M_held_26 rfl rfl (Nat.le_of_ble_eq_true rfl) ?_
      refine q_iinc (b := 1) (pc2 := 30) d_M_held_27 rfl rfl (by decide) (Nat.le_of_ble_eq_true rfl) ?_
      refine r_goto (tgt := 4) d_M_held_30 rfl ?_
      refine Run.sub (l2 := [(0, .ref 761), (1, .int (nI (cnt P (i + 1)))), (2, .int (nI (i + 1)))]) ⟨rfl, rfl, rfl, trivial⟩ ?_
      exact ih_ (8 - (i + 1)) (by omega) (i + 1) rfl (by omega)
    · refine r_iconst (v := nI 1) (pc2 := 21) d_M_held_20 rfl (by decide) ?_
      refine r_goto (tgt := 25) d_M_held_21 rfl ?_
      refine q_iaddN (pc2 := 26) d_M_held_25 rfl ?_
      refine q_top (y := nI (cnt P (i + 1))) (by rw [cnt_s, if_pos (by rw [hP]; simp only [decide_eq_true_eq]; omega)]) ?_
      refine r_istore_n (pc2 := 27) d_M_held_26 rfl rfl (Nat.le_of_ble_eq_true rfl) ?_
      refine q_iinc (b := 1) (pc2 := 30) d_M_held_27 rfl rfl (by decide) (Nat.le_of_ble_eq_true rfl) ?_
      refine r_goto (tgt := 4) d_M_held_30 rfl ?_
      refine Run.sub (l2 := [(0, .ref 761), (1, .int (nI (cnt P (i + 1)))), (2, .int (nI (i + 1)))]) ⟨rfl, rfl, rfl, trivial⟩ ?_
      exact ih_ (8 - (i + 1)) (by omega) (i + 1) rfl (by omega)
theorem c_M_held {d : Nat} {I : Nat → Nat → Int32} {R : Nat → Nat → Option Nat} {L : Nat → Nat → Int64} {sh : Nat → Nat × Nat} {N : Nat} (hS : ShOK sh) (hR : RfOK R) : Me mi_M_held d 0 0 [.ref 761] (I, R, L, sh, N) (some (.int (nI (cnt (fun s => decide (0 ≤ (I 777 s).toInt)) 8)))) (I, R, L, sh, N) := by
  refine Mt.of pn_M (Nat.le_of_ble_eq_true rfl) ?_
  show Run mi_M_held d 0 0 0 [(0, .ref 761)] [] (I, R, L, sh, N) _
  refine r_iconst (v := nI 0) (pc2 := 1) d_M_held_0 rfl (by decide) ?_
  refine r_istore_n (pc2 := 2) d_M_held_1 rfl rfl (Nat.le_of_ble_eq_true rfl) ?_
  refine r_iconst (v := nI 0) (pc2 := 3) d_M_held_2 rfl (by decide) ?_
  refine r_istore_n (pc2 := 4) d_M_held_3 rfl rfl (Nat.le_of_ble_eq_true rfl) ?_
  refine Run.sub (l2 := [(0, .ref 761), (1, .int (nI 0)), (2, .int (nI 0))]) ⟨rfl, rfl, rfl, trivial⟩ ?_
  exact l_M_held hS hR (P := fun s => decide (0 ≤ (I 777 s).toInt)) (fun s => rfl) ⟨rfl, rfl⟩ _ 0 rfl (by omega)
theorem c_M_status {d : Nat} {I : Nat → Nat → Int32} {R : Nat → Nat → Option Nat} {L : Nat → Nat → Int64} {sh : Nat → Nat × Nat} {N : Nat} (hS : ShOK sh) (hR : RfOK R) {kA fA cA gA nk nt : Nat} (hT : TRf R sh kA fA cA gA nk) (hTn : TNe kA fA cA gA) (hV : TV (I kA) (I fA) (I cA) nt) (hnt : nt ≤ nk) (hnk : nk ≤ 1000000) {nP nF : Nat} (hW : WFA (I 762) nP nF nt) {rk : Nat → Nat} (hrk : RK (I 762) nF rk) {k : Int32} (hd : nt + 60 ≤ d) : Mt mi_M_status d 0 0 [.ref 761, .int k] (I, R, L, sh, N) (RQ I R L sh N (o_status (I 762) nP nF (I 761 11) (cnt (fun s => decide (0 ≤ (I 777 s).toInt)) 8) (I 765) k)) := by
  obtain ⟨hPc, hP24, hFc, hF12, hWF, hWP⟩ := id hW
  obtain ⟨hn1, hn2, hn3, hn4⟩ := id hTn
  refine Mt.of pn_M (Nat.le_of_ble_eq_true rfl) ?_
  show Run mi_M_status d 0 0 0 [(0, .ref 761), (1, .int k)] [] (I, R, L, sh, N) _
  refine r_iload_n (pc2 := 1) d_M_status_0 rfl rfl ?_
  refine q_switch (tgt := 130) (A := k.toInt) d_M_status_1 rfl (rfl) (fun off t2 c1a c1b c1o c1t => ?_) (by decide) (by decide) (fun c1 => ?_)
  · have c1c : k.toInt = 0 ∨ k.toInt = 1 ∨ k.toInt = 2 ∨ k.toInt = 3 ∨ k.toInt = 4 ∨ k.toInt = 5 ∨ k.toInt = 6 ∨ k.toInt = 7 ∨ k.toInt = 8 ∨ k.toInt = 9 ∨ k.toInt = 10 := by omega
    rcases c1c with c1e | c1e | c1e | c1e | c1e | c1e | c1e | c1e | c1e | c1e | c1e
    · obtain rfl : t2 = 60 := by
        have hh : (some (59 : Int)) = some off := by rw [c1e] at c1o; exact c1o
        cases hh; omega
      refine r_aload_n (x := some 761) (pc2 := 61) d_M_status_60 rfl rfl ?_
      refine q_getR (x := some 762) (pc2 := 64) d_M_status_61 rfl k_M_9 rfl (sh_761 hS) (rf_761_0 hR) ?_
      refine r_iconst (v := nI 0) (pc2 := 65) d_M_status_64 rfl (by decide) ?_
      refine q_iaload (q := 0) (x := nI nP) (pc2 := 66) d_M_status_65 rfl (sh_762 hS) (nI_toInt (by omega)) (by omega) hPc ?_
      refine Run.ret (some (.int (nI nP))) d_M_status_66 ⟨_, rfl⟩ ?_
      exact RQ.val (by (unfold o_status); (try dsimp only); (try simp only [Int.toNat_natCast]); (repeat (first | rw [if_pos (by omega)] | rw [if_neg (by omega)])); (try rfl); (all_goals first | rfl | (congr 2; omega) | ((repeat' split) <;> first | rfl | (exfalso; omega) | (congr 2; omega) | skip)); (try rfl)) FrS.rf
    · obtain rfl : t2 = 67 := by
        have hh : (some (66 : Int)) = some off := by rw [c1e] at c1o; exact c1o
        cases hh; omega
      refine r_aload_n (x := some 761) (pc2 := 68) d_M_status_67 rfl rfl ?_
      refine q_getR (x := some 762) (pc2 := 71) d_M_status_68 rfl k_M_9 rfl (sh_761 hS) (rf_761_0 hR) ?_
      refine r_iconst (v := nI 1) (pc2 := 72) d_M_status_71 rfl (by decide) ?_
      refine q_iaload (q := 1) (x := nI nF) (pc2 := 73) d_M_status_72 rfl (sh_762 hS) (nI_toInt (by omega)) (by omega) hFc ?_
      refine Run.ret (some (.int (nI nF))) d_M_status_73 ⟨_, rfl⟩ ?_
      exact RQ.val (by (unfold o_status); (try dsimp only); (try simp only [Int.toNat_natCast]); (repeat (first | rw [if_pos (by omega)] | rw [if_neg (by omega)])); (try rfl); (all_goals first | rfl | (congr 2; omega) | ((repeat' split) <;> first | rfl | (exfalso; omega) | (congr 2; omega) | skip)); (try rfl)) FrS.rf
    · obtain rfl : t2 = 74 := by
        have hh : (some (73 : Int)) = some off := by rw [c1e] at c1o; exact c1o
        cases hh; omega
      refine r_aload_n (x := some 761) (pc2 := 75) d_M_status_74 rfl rfl ?_
      refine r_iconst (v := nI 4) (pc2 := 76) d_M_status_75 rfl (by decide) ?_
      refine q_callv (M2 := mi_M_sum) (pc2 := 79) d_M_status_76 rfl k_M_325 cm_M_sum cv_M_sum (sh_761 hS) (by decide) rfl rfl rfl (Nat.le_of_ble_eq_true rfl) (c_M_sum_r hS hR hT hTn hV hnt hnk hW (by omega)) (d2 := d - 1) (by omega) (Nat.le_of_eq (Nat.zero_add _)) (Nat.le_of_eq (Nat.zero_add _)) ?_
      refine Run.ret (some (.int (nI (smN (nRof (I 762)) nF)))) d_M_status_79 ⟨_, rfl⟩ ?_
      exact RQ.val (by (unfold o_status); (try dsimp only); (try simp only [Int.toNat_natCast]); (repeat (first | rw [if_pos (by omega)] | rw [if_neg (by omega)])); (try rfl); (all_goals first | rfl | (congr 2; omega) | ((repeat' split) <;> first | rfl | (exfalso; omega) | (congr 2; omega) | skip)); (try rfl)) FrS.rf
    · obtain rfl : t2 = 80 := by
        have hh : (some (79 : Int)) = some off := by rw [c1e] at c1o; exact c1o
        cases hh; omega
      refine r_aload_n (x := some 761) (pc2 := 81) d_M_status_80 rfl rfl ?_
      refine r_iconst (v := nI 5) (pc2 := 82) d_M_status_81 rfl (by decide) ?_
      refine q_callv (M2 := mi_M_sum) (pc2 := 85) d_M_status_82 rfl k_M_325 cm_M_sum cv_M_sum (sh_761 hS) (by decide) rfl rfl rfl (Nat.le_of_ble_eq_true rfl) (c_M_sum_n hS hR hT hTn hV hnt hnk hW (by omega)) (d2 := d - 1) (by omega) (Nat.le_of_eq (Nat.zero_add _)) (Nat.le_of_eq (Nat.zero_add _)) ?_
      refine Run.ret (some (.int (nI (smN (nNof (I 762)) nF)))) d_M_status_85 ⟨_, rfl⟩ ?_
      exact RQ.val (by (unfold o_status); (try dsimp only); (try simp only [Int.toNat_natCast]); (repeat (first | rw [if_pos (by omega)] | rw [if_neg (by omega)])); (try rfl); (all_goals first | rfl | (congr 2; omega) | ((repeat' split) <;> first | rfl | (exfalso; omega) | (congr 2; omega) | skip)); (try rfl)) FrS.rf
    · obtain rfl : t2 = 86 := by
        have hh : (some (85 : Int)) = some off := by rw [c1e] at c1o; exact c1o
        cases hh; omega
      refine r_aload_n (x := some 761) (pc2 := 87) d_M_status_86 rfl rfl ?_
      refine q_getR (x := some 762) (pc2 := 90) d_M_status_87 rfl k_M_9 rfl (sh_761 hS) (rf_761_0 hR) ?_
      refine r_iconst (v := nI 2) (pc2 := 91) d_M_status_90 rfl (by decide) ?_
      refine q_iaload (q := 2) (x := I 762 2) (pc2 := 92) d_M_status_91 rfl (sh_762 hS) (nI_toInt (by omega)) (by omega) rfl ?_
      refine Run.ret (some (.int (I 762 2))) d_M_status_92 ⟨_, rfl⟩ ?_
      exact RQ.val (by (unfold o_status); (try dsimp only); (try simp only [Int.toNat_natCast]); (repeat (first | rw [if_pos (by omega)] | rw [if_neg (by omega)])); (try rfl); (all_goals first | rfl | (congr 2; omega) | ((repeat' split) <;> first | rfl | (exfalso; omega) | (congr 2; omega) | skip)); (try rfl)) FrS.rf
    · obtain rfl : t2 = 93 := by
        have hh : (some (92 : Int)) = some off := by rw [c1e] at c1o; exact c1o
        cases hh; omega
      refine r_aload_n (x := some 761) (pc2 := 94) d_M_status_93 rfl rfl ?_
      refine q_getR (x := some 762) (pc2 := 97) d_M_status_94 rfl k_M_9 rfl (sh_761 hS) (rf_761_0 hR) ?_
      refine r_iconst (v := nI 3) (pc2 := 98) d_M_status_97 rfl (by decide) ?_
      refine q_iaload (q := 3) (x := I 762 3) (pc2 := 99) d_M_status_98 rfl (sh_762 hS) (nI_toInt (by omega)) (by omega) rfl ?_
      refine Run.ret (some (.int (I 762 3))) d_M_status_99 ⟨_, rfl⟩ ?_
      exact RQ.val (by (unfold o_status); (try dsimp only); (try simp only [Int.toNat_natCast]); (repeat (first | rw [if_pos (by omega)] | rw [if_neg (by omega)])); (try rfl); (all_goals first | rfl | (congr 2; omega) | ((repeat' split) <;> first | rfl | (exfalso; omega) | (congr 2; omega) | skip)); (try rfl)) FrS.rf
    · obtain rfl : t2 = 100 := by
        have hh : (some (99 : Int)) = some off := by rw [c1e] at c1o; exact c1o
        cases hh; omega
      refine r_aload_n (x := some 761) (pc2 := 101) d_M_status_100 rfl rfl ?_
      refine r_iconst (v := (-1 : Int32)) (pc2 := 102) d_M_status_101 rfl (by decide) ?_
      refine q_callv (M2 := mi_M_sum) (pc2 := 105) d_M_status_102 rfl k_M_325 cm_M_sum cv_M_sum (sh_761 hS) (by decide) rfl rfl rfl (Nat.le_of_ble_eq_true rfl) (c_M_sum_k hS hR hT hTn hV hnt hnk hW (by omega)) (d2 := d - 1) (by omega) (Nat.le_of_eq (Nat.zero_add _)) (Nat.le_of_eq (Nat.zero_add _)) ?_
      refine Run.ret (some (.int (nI (smN (fun F => cnt (keptP (I 762) F) nP) nF)))) d_M_status_105 ⟨_, rfl⟩ ?_
      exact RQ.val (by (unfold o_status); (try dsimp only); (try simp only [Int.toNat_natCast]); (repeat (first | rw [if_pos (by omega)] | rw [if_neg (by omega)])); (try rfl); (all_goals first | rfl | (congr 2; omega) | ((repeat' split) <;> first | rfl | (exfalso; omega) | (congr 2; omega) | skip)); (try rfl)) FrS.rf
    · obtain rfl : t2 = 106 := by
        have hh : (some (105 : Int)) = some off := by rw [c1e] at c1o; exact c1o
        cases hh; omega
      refine r_aload_n (x := some 761) (pc2 := 107) d_M_status_106 rfl rfl ?_
      refine q_getR (x := some 762) (pc2 := 110) d_M_status_107 rfl k_M_9 rfl (sh_761 hS) (rf_761_0 hR) ?_
      refine r_iconst (v := nI 4) (pc2 := 111) d_M_status_110 rfl (by decide) ?_
      refine q_iaload (q := 4) (x := I 762 4) (pc2 := 112) d_M_status_111 rfl (sh_762 hS) (nI_toInt (by omega)) (by omega) rfl ?_
      refine Run.ret (some (.int (I 762 4))) d_M_status_112 ⟨_, rfl⟩ ?_
      exact RQ.val (by (unfold o_status); (try dsimp only); (try simp only [Int.toNat_natCast]); (repeat (first | rw [if_pos (by omega)] | rw [if_neg (by omega)])); (try rfl); (all_goals first | rfl | (congr 2; omega) | ((repeat' split) <;> first | rfl | (exfalso; omega) | (congr 2; omega) | skip)); (try rfl)) FrS.rf
    · obtain rfl : t2 = 113 := by
        have hh : (some (112 : Int)) = some off := by rw [c1e] at c1o; exact c1o
        cases hh; omega
      refine r_aload_n (x := some 761) (pc2 := 114) d_M_status_113 rfl rfl ?_
      refine q_getI (x := I 761 11) (pc2 := 117) d_M_status_114 rfl k_M_109 (by decide) (sh_761 hS) rfl ?_
      refine Run.ret (some (.int (I 761 11))) d_M_status_117 ⟨_, rfl⟩ ?_
      exact RQ.val (by (unfold o_status); (try dsimp only); (try simp only [Int.toNat_natCast]); (repeat (first | rw [if_pos (by omega)] | rw [if_neg (by omega)])); (try rfl); (all_goals first | rfl | (congr 2; omega) | ((repeat' split) <;> first | rfl | (exfalso; omega) | (congr 2; omega) | skip)); (try rfl)) FrS.rf
    · obtain rfl : t2 = 118 := by
        have hh : (some (117 : Int)) = some off := by rw [c1e] at c1o; exact c1o
        cases hh; omega
      refine r_aload_n (x := some 761) (pc2 := 119) d_M_status_118 rfl rfl ?_
      refine q_getR (x := some 762) (pc2 := 122) d_M_status_119 rfl k_M_9 rfl (sh_761 hS) (rf_761_0 hR) ?_
      refine r_iconst (v := nI 5) (pc2 := 123) d_M_status_122 rfl (by decide) ?_
      refine q_iaload (q := 5) (x := I 762 5) (pc2 := 124) d_M_status_123 rfl (sh_762 hS) (nI_toInt (by omega)) (by omega) rfl ?_
      refine Run.ret (some (.int (I 762 5))) d_M_status_124 ⟨_, rfl⟩ ?_
      exact RQ.val (by (unfold o_status); (try dsimp only); (try simp only [Int.toNat_natCast]); (repeat (first | rw [if_pos (by omega)] | rw [if_neg (by omega)])); (try rfl); (all_goals first | rfl | (congr 2; omega) | ((repeat' split) <;> first | rfl | (exfalso; omega) | (congr 2; omega) | skip)); (try rfl)) FrS.rf
    · obtain rfl : t2 = 125 := by
        have hh : (some (124 : Int)) = some off := by rw [c1e] at c1o; exact c1o
        cases hh; omega
      refine r_aload_n (x := some 761) (pc2 := 126) d_M_status_125 rfl rfl ?_
      refine q_callv (M2 := mi_M_held) (pc2 := 129) d_M_status_126 rfl k_M_328 cm_M_held cv_M_held (sh_761 hS) (by decide) rfl rfl rfl (Nat.le_of_ble_eq_true rfl) (c_M_held hS hR) (d2 := d - 1) (by omega) (Nat.le_of_eq (Nat.zero_add _)) (Nat.le_of_eq (Nat.zero_add _)) ?_
      refine Run.ret (some (.int (nI (cnt (fun s => decide (0 ≤ (I 777 s).toInt)) 8)))) d_M_status_129 ⟨_, rfl⟩ ?_
      exact RQ.val (by (unfold o_status); (try dsimp only); (try simp only [Int.toNat_natCast]); (repeat (first | rw [if_pos (by omega)] | rw [if_neg (by omega)])); (try rfl); (all_goals first | rfl | (congr 2; omega) | ((repeat' split) <;> first | rfl | (exfalso; omega) | (congr 2; omega) | skip)); (try rfl)) FrS.rf
  · refine r_iload_n (pc2 := 131) d_M_status_130 rfl rfl ?_
    refine r_i2l (pc2 := 132) d_M_status_131 rfl ?_
    refine r_ldc2 (pc2 := 135) d_M_status_132 rfl k_M_331 ?_
    refine r_ldc2 (pc2 := 138) d_M_status_135 rfl k_M_333 ?_
    refine q_calls (M2 := mi_M_in) (pc2 := 141) d_M_status_138 rfl k_M_68 cm_M_in cs_M_in rfl rfl (Nat.le_of_ble_eq_true rfl) (c_M_in (A := k.toInt) (B := (12 : Int)) (C := (16 : Int)) (toInt64_toInt (rfl)) (by decide) (by decide)) (d2 := d - 1) (by omega) (Nat.le_of_eq (Nat.zero_add _)) (Nat.le_of_eq (Nat.zero_add _)) ?_
    refine q_bif_eq (tgt := 156) (pc2 := 144) d_M_status_141 rfl rfl (fun c2 => ?_) (fun c2 => ?_)
    · refine r_iconst (v := (-1 : Int32)) (pc2 := 157) d_M_status_156 rfl (by decide) ?_
      refine Run.ret (some (.int ((-1 : Int32)))) d_M_status_157 ⟨_, rfl⟩ ?_
      exact RQ.val (by (unfold o_status); (try dsimp only); (try simp only [Int.toNat_natCast]); (repeat (first | rw [if_pos (by omega)] | rw [if_neg (by omega)])); (try rfl); (all_goals first | rfl | (congr 2; omega) | ((repeat' split) <;> first | rfl | (exfalso; omega) | (congr 2; omega) | skip)); (try rfl)) FrS.rf
    · obtain ⟨kN, hkN, gkN, rfl, ekN⟩ := nat_of' (show (0 : Int) ≤ (12 : Int) by decide) c2
      refine r_aload_n (x := some 761) (pc2 := 145) d_M_status_144 rfl rfl ?_
      refine q_getR (x := some 765) (pc2 := 148) d_M_status_145 rfl k_M_19 rfl (sh_761 hS) (rf_761_4 hR) ?_
      refine r_iload_n (pc2 := 149) d_M_status_148 rfl rfl ?_
      refine r_bipush (v := nI 12) (pc2 := 151) d_M_status_149 rfl (by decide) ?_
      refine r_isub (pc2 := 152) d_M_status_151 rfl ?_
      refine q_iaload (q := (((kN : Nat) : Int) - ((12 : Nat) : Int)).toNat) (x := I 765 ((((kN : Nat) : Int) - ((12 : Nat) : Int)).toNat)) (pc2 := 153) d_M_status_152 rfl (sh_765 hS) ((nI_sub_toInt (by omega) (by omega)).trans (by omega)) (by omega) rfl ?_
      refine r_goto (tgt := 157) d_M_status_153 rfl ?_
      refine Run.ret (some (.int (I 765 ((((kN : Nat) : Int) - ((12 : Nat) : Int)).toNat)))) d_M_status_157 ⟨_, rfl⟩ ?_
      exact RQ.val (by (try simp only [ekN, Int.toNat_natCast] at c1 c2); (unfold o_status); (try dsimp only); (try simp only [ekN, Int.toNat_natCast]); (repeat (first | rw [if_pos (by omega)] | rw [if_neg (by omega)])); (try rfl); (all_goals first | rfl | (congr 2; omega) | ((repeat' split) <;> first | rfl | (exfalso; omega) | (congr 2; omega) | skip)); (try rfl)) FrS.rf
theorem l_M_copies {d : Nat} {I : Nat → Nat → Int32} {R : Nat → Nat → Option Nat} {L : Nat → Nat → Int64} {sh : Nat → Nat × Nat} {N : Nat} {a b : Nat} (has : sh a = (12, 1182)) (hbs : sh b = (12, 1182)) (hab : a ≠ b) {Q : Option Value → HS → Prop} (hq : Q none (cpy I a b 1182, R, L, sh, N)) : ∀ (n_ : Nat) (k : Nat) (J : Nat → Nat → Int32), 1182 - k = n_ → (J = cpy I a b k) → (k ≤ 1182) → Run mi_M_copies d 0 0 2 [(0, .ref a), (1, .ref b), (2, .int (nI k))] [] (J, R, L, sh, N) Q := by
  intro n_
  induction n_ using Nat.strongRecOn with | ind n_ ih_ => ?_
  intro k J hn_ v0_ v1_
  refine r_iload_n (pc2 := 3) d_M_copies_2 rfl rfl ?_
  refine r_aload_n (x := some a) (pc2 := 4) d_M_copies_3 rfl rfl ?_
  refine r_alen (pc2 := 5) d_M_copies_4 rfl has (by decide) (by decide) ?_
  refine q_icmp_ge (tgt := 20) (A := ((k : Nat) : Int)) (B := (1182 : Int)) (pc2 := 8) d_M_copies_5 rfl rfl (nI_toInt (by omega)) (nI_toInt (by omega)) (fun c1 => ?_) (fun c1 => ?_)
  · refine Run.ret none d_M_copies_20 rfl ?_
    rw [v0_, show k = 1182 by omega]; exact hq
  · refine r_aload_n (x := some b) (pc2 := 9) d_M_copies_8 rfl rfl ?_
    refine r_iload_n (pc2 := 10) d_M_copies_9 rfl rfl ?_
    refine r_aload_n (x := some a) (pc2 := 11) d_M_copies_10 rfl rfl ?_
    refine r_iload_n (pc2 := 12) d_M_copies_11 rfl rfl ?_
    refine q_iaload (q := k) (x := I a k) (pc2 := 13) d_M_copies_12 rfl has (nI_toInt (by omega)) (by omega) (by rw [v0_]; exact cpy_a hab) ?_
    refine q_iastore (q := k) (pc2 := 14) d_M_copies_13 rfl hbs (nI_toInt (by omega)) (by omega) (fun I2 hI2 => ?_)
    refine q_iinc (b := 1) (pc2 := 17) d_M_copies_14 rfl rfl (by decide) (Nat.le_of_ble_eq_true rfl) ?_
    refine r_goto (tgt := 2) d_M_copies_17 rfl ?_
    refine Run.sub (l2 := [(0, .ref a), (1, .ref b), (2, .int (nI (k + 1)))]) ⟨rfl, rfl, rfl, trivial⟩ ?_
    exact ih_ (1182 - (k + 1)) (by omega) (k + 1) I2 rfl (hI2.trans (by rw [v0_]; exact cpy_s hab)) (by omega)
theorem c_M_copies {d : Nat} {I : Nat → Nat → Int32} {R : Nat → Nat → Option Nat} {L : Nat → Nat → Int64} {sh : Nat → Nat × Nat} {N : Nat} {a b : Nat} (has : sh a = (12, 1182)) (hbs : sh b = (12, 1182)) (hab : a ≠ b) : Me mi_M_copies d 0 0 [.ref a, .ref b] (I, R, L, sh, N) none (cpy I a b 1182, R, L, sh, N) := by
  refine Mt.of pn_M (Nat.le_of_ble_eq_true rfl) ?_
  show Run mi_M_copies d 0 0 0 [(0, .ref a), (1, .ref b)] [] (I, R, L, sh, N) _
  refine r_iconst (v := nI 0) (pc2 := 1) d_M_copies_0 rfl (by decide) ?_
  refine r_istore_n (pc2 := 2) d_M_copies_1 rfl rfl (Nat.le_of_ble_eq_true rfl) ?_
  refine Run.sub (l2 := [(0, .ref a), (1, .ref b), (2, .int (nI 0))]) ⟨rfl, rfl, rfl, trivial⟩ ?_
  exact l_M_copies has hbs hab ⟨rfl, rfl⟩ _ 0 I rfl cpy_0.symm (by omega)
def o_image : Out := .inl (nI 1)
theorem c_M_image {d : Nat} {I : Nat → Nat → Int32} {R : Nat → Nat → Option Nat} {L : Nat → Nat → Int64} {sh : Nat → Nat × Nat} {N : Nat} (hS : ShOK sh) (hR : RfOK R) {kA fA cA gA nk nt : Nat} (hT : TRf R sh kA fA cA gA nk) (hTn : TNe kA fA cA gA) (hV : TV (I kA) (I fA) (I cA) nt) (hnt : nt ≤ nk) (hnk : nk ≤ 1000000) {nP nF : Nat} (hW : WFA (I 762) nP nF nt) {rk : Nat → Nat} (hrk : RK (I 762) nF rk)  (hd : nt + 60 ≤ d) : Mt mi_M_image d 0 0 [.ref 761] (I, R, L, sh, N) (RQT I R L sh N (o_image ) (u2 (cpy I 762 764 1182) 761 3 (nI 1))) := by
  obtain ⟨hPc, hP24, hFc, hF12, hWF, hWP⟩ := id hW
  obtain ⟨hn1, hn2, hn3, hn4⟩ := id hTn
  refine Mt.of pn_M (Nat.le_of_ble_eq_true rfl) ?_
  show Run mi_M_image d 0 0 0 [(0, .ref 761)] [] (I, R, L, sh, N) _
  refine r_aload_n (x := some 761) (pc2 := 1) d_M_image_0 rfl rfl ?_
  refine q_getR (x := some 762) (pc2 := 4) d_M_image_1 rfl k_M_9 rfl (sh_761 hS) (rf_761_0 hR) ?_
  refine r_aload_n (x := some 761) (pc2 := 5) d_M_image_4 rfl rfl ?_
  refine q_getR (x := some 764) (pc2 := 8) d_M_image_5 rfl k_M_16 rfl (sh_761 hS) (rf_761_2 hR) ?_
  refine q_callsV (M2 := mi_M_copies) (pc2 := 11) d_M_image_8 rfl k_M_249 cm_M_copies cs_M_copies rfl rfl (Nat.le_of_ble_eq_true rfl) (c_M_copies (I := I) (a := 762) (b := 764) (sh_762 hS) (sh_764 hS) (by decide)) (d2 := d - 1) (by omega) (Nat.le_of_eq (Nat.zero_add _)) (Nat.le_of_eq (Nat.zero_add _)) ?_
  obtain ⟨J1, hJ1⟩ : ∃ x, x = cpy I 762 764 1182 := ⟨_, rfl⟩
  rw [← hJ1]
  refine r_aload_n (x := some 761) (pc2 := 12) d_M_image_11 rfl rfl ?_
  refine r_iconst (v := nI 1) (pc2 := 13) d_M_image_12 rfl (by decide) ?_
  refine q_putI (pc2 := 16) d_M_image_13 rfl k_M_321 (Or.inr ⟨rfl, by decide⟩) (sh_761 hS) (Or.inl rfl) (fun I2 hI2 => ?_)
  refine r_iconst (v := nI 1) (pc2 := 17) d_M_image_16 rfl (by decide) ?_
  refine Run.ret (some (.int (nI 1))) d_M_image_17 ⟨_, rfl⟩ ?_
  exact RQT.val (by (unfold o_image); (try dsimp only); (try simp only [Int.toNat_natCast]); (repeat (first | rw [if_pos (by omega)] | rw [if_neg (by omega)])); (try rfl); (all_goals first | rfl | (congr 2; omega) | ((repeat' split) <;> first | rfl | (exfalso; omega) | (congr 2; omega) | skip))) (by rw [hI2, hJ1]; exact FrS.rf)
theorem c_M_back {d : Nat} {I : Nat → Nat → Int32} {R : Nat → Nat → Option Nat} {L : Nat → Nat → Int64} {sh : Nat → Nat × Nat} {N : Nat} (hS : ShOK sh) (hR : RfOK R) {kA fA cA gA nk nt : Nat} (hT : TRf R sh kA fA cA gA nk) (hTn : TNe kA fA cA gA) (hV : TV (I kA) (I fA) (I cA) nt) (hnt : nt ≤ nk) (hnk : nk ≤ 1000000) {nP nF : Nat} (hW : WFA (I 762) nP nF nt) {rk : Nat → Nat} (hrk : RK (I 762) nF rk)  (hd : nt + 60 ≤ d) : Mt mi_M_back d 0 0 [.ref 761] (I, R, L, sh, N) (RQT I R L sh N (o_back (I 761 3)) (cpy I 764 762 1182)) := by
  obtain ⟨hPc, hP24, hFc, hF12, hWF, hWP⟩ := id hW
  obtain ⟨hn1, hn2, hn3, hn4⟩ := id hTn
  refine Mt.of pn_M (Nat.le_of_ble_eq_true rfl) ?_
  show Run mi_M_back d 0 0 0 [(0, .ref 761)] [] (I, R, L, sh, N) _
  refine r_aload_n (x := some 761) (pc2 := 1) d_M_back_0 rfl rfl ?_
  refine q_getI (x := I 761 3) (pc2 := 4) d_M_back_1 rfl k_M_321 (by decide) (sh_761 hS) rfl ?_
  refine q_if_ne (tgt := 14) (A := (I 761 3).toInt) (pc2 := 7) d_M_back_4 rfl rfl (rfl) (fun c1 => ?_) (fun c1 => ?_)
  · refine r_aload_n (x := some 761) (pc2 := 15) d_M_back_14 rfl rfl ?_
    refine q_getR (x := some 764) (pc2 := 18) d_M_back_15 rfl k_M_16 rfl (sh_761 hS) (rf_761_2 hR) ?_
    refine r_aload_n (x := some 761) (pc2 := 19) d_M_back_18 rfl rfl ?_
    refine q_getR (x := some 762) (pc2 := 22) d_M_back_19 rfl k_M_9 rfl (sh_761 hS) (rf_761_0 hR) ?_
    refine q_callsV (M2 := mi_M_copies) (pc2 := 25) d_M_back_22 rfl k_M_249 cm_M_copies cs_M_copies rfl rfl (Nat.le_of_ble_eq_true rfl) (c_M_copies (I := I) (a := 764) (b := 762) (sh_764 hS) (sh_762 hS) (by decide)) (d2 := d - 1) (by omega) (Nat.le_of_eq (Nat.zero_add _)) (Nat.le_of_eq (Nat.zero_add _)) ?_
    obtain ⟨J2, hJ2⟩ : ∃ x, x = cpy I 764 762 1182 := ⟨_, rfl⟩
    rw [← hJ2]
    refine r_iconst (v := nI 1) (pc2 := 26) d_M_back_25 rfl (by decide) ?_
    refine Run.ret (some (.int (nI 1))) d_M_back_26 ⟨_, rfl⟩ ?_
    exact RQT.val (by (unfold o_back); (try dsimp only); (try simp only [Int.toNat_natCast]); (repeat (first | rw [if_pos (by omega)] | rw [if_neg (by omega)])); (try rfl); (all_goals first | rfl | (congr 2; omega) | ((repeat' split) <;> first | rfl | (exfalso; omega) | (congr 2; omega) | skip))) (by rw [hJ2]; exact FrS.rf)
  · refine r_aload_n (x := some 761) (pc2 := 8) d_M_back_7 rfl rfl ?_
    refine r_bipush (v := (-35 : Int32)) (pc2 := 10) d_M_back_8 rfl (by decide) ?_
    refine q_callv (M2 := mi_M_refused) (pc2 := 13) d_M_back_10 rfl k_M_106 cm_M_refused cv_M_refused (sh_761 hS) (by decide) rfl rfl rfl (Nat.le_of_ble_eq_true rfl) (c_M_refused_3 (I := I) hS hR) (d2 := d - 1) (by omega) (Nat.le_of_eq (Nat.zero_add _)) (Nat.le_of_eq (Nat.zero_add _)) ?_
    obtain ⟨I3, hI3⟩ : ∃ x, x = u2 I 765 3 (I 765 3 + nI 1) := ⟨_, rfl⟩
    rw [← hI3]
    refine Run.ret (some (.int ((-35 : Int32)))) d_M_back_13 ⟨_, rfl⟩ ?_
    exact RQT.bad 3 (by (unfold o_back); (try dsimp only); (try simp only [Int.toNat_natCast]); (repeat (first | rw [if_pos (by omega)] | rw [if_neg (by omega)])); (try rfl); (all_goals first | rfl | (congr 2; omega) | ((repeat' split) <;> first | rfl | (exfalso; omega) | (congr 2; omega) | skip))) (by decide) FrS.rf hI3
theorem c_M_feed {d : Nat} {I : Nat → Nat → Int32} {R : Nat → Nat → Option Nat} {L : Nat → Nat → Int64} {sh : Nat → Nat × Nat} {N : Nat} (hS : ShOK sh) (hR : RfOK R) {kA fA cA gA nk nt : Nat} (hT : TRf R sh kA fA cA gA nk) (hTn : TNe kA fA cA gA) (hV : TV (I kA) (I fA) (I cA) nt) (hnt : nt ≤ nk) (hnk : nk ≤ 1000000) {nP nF : Nat} (hW : WFA (I 762) nP nF nt) {rk : Nat → Nat} (hrk : RK (I 762) nF rk) {v : Int32} {tn : Nat} (hT11 : I 761 11 = nI tn) (hT250 : tn ≤ 250) (hd : nt + 60 ≤ d) : Mt mi_M_feed d 0 0 [.ref 761, .int v] (I, R, L, sh, N) (RQT I R L sh N (o_feed (I 761 11) v) (u2 (u2 I 770 (I 761 11).toInt.toNat v) 761 11 (I 761 11 + nI 1))) := by
  obtain ⟨hPc, hP24, hFc, hF12, hWF, hWP⟩ := id hW
  obtain ⟨hn1, hn2, hn3, hn4⟩ := id hTn
  refine Mt.of pn_M (Nat.le_of_ble_eq_true rfl) ?_
  show Run mi_M_feed d 0 0 0 [(0, .ref 761), (1, .int v)] [] (I, R, L, sh, N) _
  have bT : (I 761 11).toInt = (tn : Int) := by rw [hT11, nI_toInt (by omega)]
  refine r_iload_n (pc2 := 1) d_M_feed_0 rfl rfl ?_
  refine r_i2l (pc2 := 2) d_M_feed_1 rfl ?_
  refine r_lconst (v := (0 : Int64)) (pc2 := 3) d_M_feed_2 rfl (by decide) ?_
  refine r_ldc2 (pc2 := 6) d_M_feed_3 rfl k_M_104 ?_
  refine q_calls (M2 := mi_M_in) (pc2 := 9) d_M_feed_6 rfl k_M_68 cm_M_in cs_M_in rfl rfl (Nat.le_of_ble_eq_true rfl) (c_M_in (A := v.toInt) (B := (0 : Int)) (C := (255 : Int)) (toInt64_toInt (rfl)) (by decide) (by decide)) (d2 := d - 1) (by omega) (Nat.le_of_eq (Nat.zero_add _)) (Nat.le_of_eq (Nat.zero_add _)) ?_
  refine q_bif_ne (tgt := 19) (pc2 := 12) d_M_feed_9 rfl rfl (fun c1 => ?_) (fun c1 => ?_)
  · obtain ⟨vN, hvN, gvN, rfl, evN⟩ := nat_of' (show (0 : Int) ≤ (0 : Int) by decide) c1
    refine r_aload_n (x := some 761) (pc2 := 20) d_M_feed_19 rfl rfl ?_
    refine q_getI (x := nI tn) (pc2 := 23) d_M_feed_20 rfl k_M_109 (by decide) (sh_761 hS) hT11 ?_
    refine r_sipush (v := nI 250) (pc2 := 26) d_M_feed_23 rfl (by decide) ?_
    refine q_icmp_ne (tgt := 36) (A := ((tn : Nat) : Int)) (B := (250 : Int)) (pc2 := 29) d_M_feed_26 rfl rfl (nI_toInt (by omega)) (nI_toInt (by omega)) (fun c2 => ?_) (fun c2 => ?_)
    · refine r_aload_n (x := some 761) (pc2 := 37) d_M_feed_36 rfl rfl ?_
      refine q_getR (x := some 770) (pc2 := 40) d_M_feed_37 rfl k_M_34 rfl (sh_761 hS) (rf_761_10 hR) ?_
      refine r_aload_n (x := some 761) (pc2 := 41) d_M_feed_40 rfl rfl ?_
      refine q_getI (x := nI tn) (pc2 := 44) d_M_feed_41 rfl k_M_109 (by decide) (sh_761 hS) hT11 ?_
      refine r_iload_n (pc2 := 45) d_M_feed_44 rfl rfl ?_
      refine q_iastore (q := tn) (pc2 := 46) d_M_feed_45 rfl (sh_770 hS) (nI_toInt (by omega)) (by omega) (fun I3 hI3 => ?_)
      refine r_aload_n (x := some 761) (pc2 := 47) d_M_feed_46 rfl rfl ?_
      refine r_dup (pc2 := 48) d_M_feed_47 rfl rfl ?_
      refine q_getI (x := nI tn) (pc2 := 51) d_M_feed_48 rfl k_M_109 (by decide) (sh_761 hS) ((rd_ne hI3 (by decide)).trans (hT11)) ?_
      refine r_iconst (v := nI 1) (pc2 := 52) d_M_feed_51 rfl (by decide) ?_
      refine q_iaddN (pc2 := 53) d_M_feed_52 rfl ?_
      refine q_putI (pc2 := 56) d_M_feed_53 rfl k_M_109 (Or.inl rfl) (sh_761 hS) (Or.inl rfl) (fun I4 hI4 => ?_)
      refine r_aload_n (x := some 761) (pc2 := 57) d_M_feed_56 rfl rfl ?_
      refine q_getI (x := nI (tn + 1)) (pc2 := 60) d_M_feed_57 rfl k_M_109 (by decide) (sh_761 hS) (rd_eq hI4) ?_
      refine Run.ret (some (.int (nI (tn + 1)))) d_M_feed_60 ⟨_, rfl⟩ ?_
      exact RQT.val (by (try simp only [bT, evN, Int.toNat_natCast] at c1 c2); (unfold o_feed); (try dsimp only); (try simp only [bT, evN, Int.toNat_natCast]); (repeat (first | rw [if_pos (by omega)] | rw [if_neg (by omega)])); (try rfl); (all_goals first | rfl | (simp only [hT11, nI_add]; done) | (congr 2; omega) | ((repeat' split) <;> first | rfl | (simp only [hT11, nI_add]; done) | (exfalso; omega) | (congr 2; omega) | skip))) (by rw [bT, Int.toNat_natCast]; rw [hI4, hI3, hT11, nI_add]; exact FrS.rf)
    · refine r_aload_n (x := some 761) (pc2 := 30) d_M_feed_29 rfl rfl ?_
      refine r_bipush (v := (-36 : Int32)) (pc2 := 32) d_M_feed_30 rfl (by decide) ?_
      refine q_callv (M2 := mi_M_refused) (pc2 := 35) d_M_feed_32 rfl k_M_106 cm_M_refused cv_M_refused (sh_761 hS) (by decide) rfl rfl rfl (Nat.le_of_ble_eq_true rfl) (c_M_refused_4 (I := I) hS hR) (d2 := d - 1) (by omega) (Nat.le_of_eq (Nat.zero_add _)) (Nat.le_of_eq (Nat.zero_add _)) ?_
      obtain ⟨I5, hI5⟩ : ∃ x, x = u2 I 765 4 (I 765 4 + nI 1) := ⟨_, rfl⟩
      rw [← hI5]
      refine Run.ret (some (.int ((-36 : Int32)))) d_M_feed_35 ⟨_, rfl⟩ ?_
      exact RQT.bad 4 (by (try simp only [bT, evN, Int.toNat_natCast] at c1 c2); (unfold o_feed); (try dsimp only); (try simp only [bT, evN, Int.toNat_natCast]); (repeat (first | rw [if_pos (by omega)] | rw [if_neg (by omega)])); (try rfl); (all_goals first | rfl | (simp only [hT11, nI_add]; done) | (congr 2; omega) | ((repeat' split) <;> first | rfl | (simp only [hT11, nI_add]; done) | (exfalso; omega) | (congr 2; omega) | skip))) (by decide) FrS.rf hI5
  · refine r_aload_n (x := some 761) (pc2 := 13) d_M_feed_12 rfl rfl ?_
    refine r_bipush (v := (-32 : Int32)) (pc2 := 15) d_M_feed_13 rfl (by decide) ?_
    refine q_callv (M2 := mi_M_refused) (pc2 := 18) d_M_feed_15 rfl k_M_106 cm_M_refused cv_M_refused (sh_761 hS) (by decide) rfl rfl rfl (Nat.le_of_ble_eq_true rfl) (c_M_refused_0 (I := I) hS hR) (d2 := d - 1) (by omega) (Nat.le_of_eq (Nat.zero_add _)) (Nat.le_of_eq (Nat.zero_add _)) ?_
    obtain ⟨I6, hI6⟩ : ∃ x, x = u2 I 765 0 (I 765 0 + nI 1) := ⟨_, rfl⟩
    rw [← hI6]
    refine Run.ret (some (.int ((-32 : Int32)))) d_M_feed_18 ⟨_, rfl⟩ ?_
    exact RQT.bad 0 (by (try simp only [bT, Int.toNat_natCast] at c1); (unfold o_feed); (try dsimp only); (try simp only [bT, Int.toNat_natCast]); (repeat (first | rw [if_pos (by omega)] | rw [if_neg (by omega)])); (try rfl); (all_goals first | rfl | (simp only [hT11, nI_add]; done) | (congr 2; omega) | ((repeat' split) <;> first | rfl | (simp only [hT11, nI_add]; done) | (exfalso; omega) | (congr 2; omega) | skip))) (by decide) FrS.rf hI6
def o_wipe (t : Int32) : Out := .inl t
theorem c_M_wipe {d : Nat} {I : Nat → Nat → Int32} {R : Nat → Nat → Option Nat} {L : Nat → Nat → Int64} {sh : Nat → Nat × Nat} {N : Nat} (hS : ShOK sh) (hR : RfOK R) {kA fA cA gA nk nt : Nat} (hT : TRf R sh kA fA cA gA nk) (hTn : TNe kA fA cA gA) (hV : TV (I kA) (I fA) (I cA) nt) (hnt : nt ≤ nk) (hnk : nk ≤ 1000000) {nP nF : Nat} (hW : WFA (I 762) nP nF nt) {rk : Nat → Nat} (hrk : RK (I 762) nF rk)  (hd : nt + 60 ≤ d) : Mt mi_M_wipe d 0 0 [.ref 761] (I, R, L, sh, N) (RQT I R L sh N (o_wipe (I 761 11)) (u2 I 761 11 (nI 0))) := by
  obtain ⟨hPc, hP24, hFc, hF12, hWF, hWP⟩ := id hW
  obtain ⟨hn1, hn2, hn3, hn4⟩ := id hTn
  refine Mt.of pn_M (Nat.le_of_ble_eq_true rfl) ?_
  show Run mi_M_wipe d 0 0 0 [(0, .ref 761)] [] (I, R, L, sh, N) _
  refine r_aload_n (x := some 761) (pc2 := 1) d_M_wipe_0 rfl rfl ?_
  refine q_getI (x := I 761 11) (pc2 := 4) d_M_wipe_1 rfl k_M_109 (by decide) (sh_761 hS) rfl ?_
  refine r_istore_n (pc2 := 5) d_M_wipe_4 rfl rfl (Nat.le_of_ble_eq_true rfl) ?_
  refine r_aload_n (x := some 761) (pc2 := 6) d_M_wipe_5 rfl rfl ?_
  refine r_iconst (v := nI 0) (pc2 := 7) d_M_wipe_6 rfl (by decide) ?_
  refine q_putI (pc2 := 10) d_M_wipe_7 rfl k_M_109 (Or.inl rfl) (sh_761 hS) (Or.inl rfl) (fun I1 hI1 => ?_)
  refine r_iload_n (pc2 := 11) d_M_wipe_10 rfl rfl ?_
  refine Run.ret (some (.int (I 761 11))) d_M_wipe_11 ⟨_, rfl⟩ ?_
  exact RQT.val (by (unfold o_wipe); (try dsimp only); (try simp only [Int.toNat_natCast]); (repeat (first | rw [if_pos (by omega)] | rw [if_neg (by omega)])); (try rfl); (all_goals first | rfl | (congr 2; omega) | ((repeat' split) <;> first | rfl | (exfalso; omega) | (congr 2; omega) | skip))) (by rw [hI1]; exact FrS.rf)
