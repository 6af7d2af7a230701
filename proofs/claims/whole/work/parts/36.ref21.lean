/-! THE REFERENCE: what would be -/
theorem l64_add {x : Int32} {y : Int64} {A B : Int} (hx : x.toInt64.toInt = A) (hy : y.toInt = B) (hB : 0 ≤ B ∧ B < 1099511627776) : (x.toInt64 + y).toInt = A + B := by
  rw [Int64.toInt_add, hx, hy]
  have h1 := x.toInt_lt
  have h2 := x.le_toInt
  have h3 : x.toInt64.toInt = x.toInt := Int32.toInt_toInt64 x
  rw [hx] at h3
  apply Int.bmod_eq_of_le <;> omega
theorem FrS.cpy763 {I : Nat → Nat → Int32} : FrS (setR I 762 (I 762)) (cpy I 762 763 1182) := by
  rw [setR_self]
  intro a j q
  exact cpy_a (fun e => q (by unfold scr; omega))
/-- behind 'later' all is as it was -/
theorem later_fr {I K1 K2 : Nat → Nat → Int32} {G2 : Nat → Int32} (h1 : FrS (setR I 762 G2) K1) (hw : ∀ j, K1 763 j = cpy I 762 763 1182 763 j) (hA : FrA K1 K2) (h2 : ∀ j, 1182 ≤ j → G2 j = I 762 j) : FrS I (cpy K2 763 762 1182) := by
  intro a j q
  by_cases e : a = 762
  · subst e
    by_cases hj : j < 1182
    · rw [cpy_b hj, hA 763 j (by decide) (by decide) (by decide) (fun e => absurd e (by decide)), hw j, cpy_b hj]
    · show (if 762 = 762 ∧ j < 1182 then K2 763 j else K2 762 j) = I 762 j
      rw [if_neg (by omega), hA 762 j (by decide) (by decide) (by decide) (fun e => absurd e (by decide)), h1 762 j q]
      show (if 762 = 762 then G2 j else I 762 j) = I 762 j
      rw [if_pos rfl]; exact h2 j (by omega)
  · rw [cpy_a e, hA.s a j q, h1 a j q]
    show (if a = 762 then G2 j else I a j) = I a j
    rw [if_neg e]
/-- whom a part would bring in -/
def enP (tr : Int32 → Nat → Nat → Bool) (G : Nat → Int32) (F r k v p : Nat) : Bool := decide ((AN tr G p F).1.toInt = (k : Int) ∨ ((AN tr G p F).2.1.toInt = 6 ∧ (AN tr G p F).2.2.toInt = (r : Int) ∧ 0 ≤ (bkt (nI (F + 1)) (G (6 + 2 * p))).toInt - ((333 * (k - 1) : Nat) : Int) ∧ (bkt (nI (F + 1)) (G (6 + 2 * p))).toInt - ((333 * (k - 1) : Nat) : Int) < (v : Int)))
def growB (tr : Int32 → Nat → Nat → Bool) (G : Nat → Int32) (nP F r k n : Nat) : Option Nat := fst1 (fun v => decide (n ≤ cnt (enP tr (u1 G (174 + 84 * F + 60 + 4 * r + k) (nI 0)) F r k v) nP)) 334
def o_grow (tr : Int32 → Nat → Nat → Bool) (G : Nat → Int32) (nP nF : Nat) (f s k n : Int32) : Out := if okPart G nF f s k (nI 0) then (if 0 ≤ n.toInt ∧ n.toInt ≤ 24 then (if 1000 ≤ (G (174 + 84 * f.toInt.toNat + 60 + 4 * s.toInt.toNat + 1)).toInt then .inr 3 else .inl (vo (growB tr G nP f.toInt.toNat s.toInt.toNat k.toInt.toNat n.toInt.toNat))) else .inr 0) else .inr 0
def o_moved (tr : Int32 → Nat → Nat → Bool) (G : Nat → Int32) (nP nF : Nat) (f s k v : Int32) : Out := if okPart G nF f s k v then (if 1000 ≤ (G (174 + 84 * f.toInt.toNat + 60 + 4 * s.toInt.toNat + 1)).toInt then .inr 3 else .inl (bits (fun p => decide ((AN tr (u1 G (174 + 84 * f.toInt.toNat + 60 + 4 * s.toInt.toNat + k.toInt.toNat) v) p f.toInt.toNat).1.toInt ≠ (AN tr G p f.toInt.toNat).1.toInt)) nP)) else .inr 0
def anyB (P : Nat → Bool) : Nat → Bool
  | 0 => false
  | n + 1 => anyB P n || P n
def shkG (G : Nat → Int32) (f : Nat) : Nat → Int32 := u1 G (174 + 84 * f + 1) (nI 1 - G (174 + 84 * f + 1))
def shkP (tr : Int32 → Nat → Nat → Bool) (G : Nat → Int32) (f F p : Nat) : Bool := decide ((AN tr (shkG G f) p F).1.toInt ≠ (AN tr G p F).1.toInt)
def o_shakes (tr : Int32 → Nat → Nat → Bool) (G : Nat → Int32) (nP nF : Nat) (f : Int32) : Out := if 0 ≤ f.toInt ∧ f.toInt < (nF : Int) then .inl (bits (fun F => anyB (shkP tr G f.toInt.toNat F) nP) nF) else .inr 0
theorem u1_u1 {G : Nat → Int32} {i : Nat} {v w : Int32} (h : w = G i) : u1 (u1 G i v) i w = G := by
  funext j
  by_cases e : j = i
  · subst e; rw [u1_i, h]
  · rw [u1_o e, u1_o e]
theorem anyB_s {P : Nat → Bool} {n : Nat} : anyB P (n + 1) = (anyB P n || P n) := rfl
/-- the bits of those ahead, and this one's, if so -/
def bitsA (P : Nat → Bool) (n : Nat) (b : Bool) : Int32 := if b = true then bits P n ||| (nI 1 <<< (nI n &&& 31)) else bits P n
theorem or_idem2 (x y : Int32) : (x ||| y) ||| y = x ||| y := b_ext fun i hi => by rw [b_or, b_or]; cases bt x i <;> cases bt y i <;> rfl
theorem bitsA_t {P : Nat → Bool} {n : Nat} {b : Bool} : bitsA P n b ||| (nI 1 <<< (nI n &&& 31)) = bitsA P n true := by
  unfold bitsA
  cases b
  · rw [if_neg (by decide), if_pos rfl]
  · rw [if_pos rfl, or_idem2]
theorem c_M_later {d : Nat} {I : Nat → Nat → Int32} {R : Nat → Nat → Option Nat} {L : Nat → Nat → Int64} {sh : Nat → Nat × Nat} {N : Nat} (hS : ShOK sh) (hR : RfOK R) {kA fA cA gA nk nt : Nat} (hT : TRf R sh kA fA cA gA nk) (hTn : TNe kA fA cA gA) (hV : TV (I kA) (I fA) (I cA) nt) (hnt : nt ≤ nk) (hnk : nk ≤ 1000000) {nP nF : Nat} (hW : WFA (I 762) nP nF nt) {rk : Nat → Nat} (hrk : RK (I 762) nF rk) {f : Int32} {key : Int32} {t : Int32} {nS : Nat} (hTt : WFT (I 762) nF nS) (hd : nt + 60 ≤ d) : Mt mi_M_later d 0 0 [.ref 761, .int f, .int key, .int t] (I, R, L, sh, N) (RQ I R L sh N (o_later (TRE I kA fA cA gA) (I 762) nP nF nS f key t)) := by
  obtain ⟨hPc, hP24, hFc, hF12, hWF, hWP⟩ := id hW
  obtain ⟨hn1, hn2, hn3, hn4⟩ := id hTn
  refine Mt.of pn_M (Nat.le_of_ble_eq_true rfl) ?_
  show Run mi_M_later d 0 0 0 [(0, .ref 761), (1, .int f), (2, .int key), (3, .int t)] [] (I, R, L, sh, N) _
  refine r_aload_n (x := some 761) (pc2 := 1) d_M_later_0 rfl rfl ?_
  refine r_iload_n (pc2 := 2) d_M_later_1 rfl rfl ?_
  refine q_callv (M2 := mi_M_personBy) (pc2 := 5) d_M_later_2 rfl k_M_204 cm_M_personBy cv_M_personBy (sh_761 hS) (by decide) rfl rfl rfl (Nat.le_of_ble_eq_true rfl) (c_M_personBy (I := I) (nP := nP) (key := key) hS hR (hPc) hP24 (by omega)) (d2 := d - 1) (by omega) (Nat.le_of_eq (Nat.zero_add _)) (Nat.le_of_eq (Nat.zero_add _)) ?_
  cases hopkkey : pB (I 762) nP key with
  | none =>
    refine r_istore (pc2 := 7) d_M_later_5 rfl (Nat.le_of_ble_eq_true rfl) ?_
    refine r_aload_n (x := some 761) (pc2 := 8) d_M_later_7 rfl rfl ?_
    refine r_iload_n (pc2 := 9) d_M_later_8 rfl rfl ?_
    refine q_callv (M2 := mi_M_isFeature) (pc2 := 12) d_M_later_9 rfl k_M_72 cm_M_isFeature cv_M_isFeature (sh_761 hS) (by decide) rfl rfl rfl (Nat.le_of_ble_eq_true rfl) (c_M_isFeature (I := I) (nF := nF) (f := f) hS hR (hFc) hF12 (by omega)) (d2 := d - 1) (by omega) (Nat.le_of_eq (Nat.zero_add _)) (Nat.le_of_eq (Nat.zero_add _)) ?_
    refine q_bif_eq (tgt := 46) (pc2 := 15) d_M_later_12 rfl rfl (fun c1 => ?_) (fun c1 => ?_)
    · refine r_aload_n (x := some 761) (pc2 := 47) d_M_later_46 rfl rfl ?_
      refine r_bipush (v := (-32 : Int32)) (pc2 := 49) d_M_later_47 rfl (by decide) ?_
      refine q_callv (M2 := mi_M_refused) (pc2 := 52) d_M_later_49 rfl k_M_106 cm_M_refused cv_M_refused (sh_761 hS) (by decide) rfl rfl rfl (Nat.le_of_ble_eq_true rfl) (c_M_refused_0 (I := I) hS hR) (d2 := d - 1) (by omega) (Nat.le_of_eq (Nat.zero_add _)) (Nat.le_of_eq (Nat.zero_add _)) ?_
      obtain ⟨I2, hI2⟩ : ∃ x, x = u2 I 765 0 (I 765 0 + nI 1) := ⟨_, rfl⟩
      rw [← hI2]
      refine Run.ret (some (.int ((-32 : Int32)))) d_M_later_52 ⟨_, rfl⟩ ?_
      exact RQ.bad 0 (by (unfold o_later); (try dsimp only); (try simp only [Int.toNat_natCast]); (repeat (first | rw [if_pos (by omega)] | rw [if_neg (by omega)] | (rw [hopkkey]; try dsimp only))); (try rfl); (all_goals first | rfl | (congr 2; omega) | ((repeat' split) <;> first | rfl | (exfalso; omega) | (congr 2; omega) | skip)); (try rfl)) (by decide) FrS.rf hI2
    · obtain ⟨fN, hfN, rfl, efN⟩ := nat_of c1
      obtain ⟨tpfN, klfN, skfN, fbfN, nRfN, nNfN, nOfN, frfN, tofN, ⟨a0fN, b0fN, cc0fN, dd0fN⟩, ⟨a1fN, b1fN, cc1fN, dd1fN⟩, ⟨a2fN, b2fN, cc2fN, dd2fN⟩, ⟨a3fN, b3fN, cc3fN, dd3fN⟩, ⟨a4fN, b4fN, cc4fN, dd4fN⟩, ⟨a5fN, b5fN, cc5fN, dd5fN⟩, ⟨a6fN, b6fN, cc6fN, dd6fN⟩, ⟨a8fN, b8fN, cc8fN, dd8fN⟩, ⟨a9fN, b9fN, cc9fN, dd9fN⟩⟩ := wfn (hWF fN hfN)
      obtain ⟨-, -, -, -, -, -, -, w7fN, -, -, wNfN, wRfN, wKfN, wOfN⟩ := hWF fN hfN
      refine r_iload (pc2 := 17) d_M_later_15 rfl rfl ?_
      refine q_if_lt (tgt := 46) (A := (-1 : Int)) (pc2 := 20) d_M_later_17 rfl rfl (by decide) (fun c3 => ?_) (fun c3 => ?_)
      rotate_left
      · exfalso; omega
      refine r_aload_n (x := some 761) (pc2 := 47) d_M_later_46 rfl rfl ?_
      refine r_bipush (v := (-32 : Int32)) (pc2 := 49) d_M_later_47 rfl (by decide) ?_
      refine q_callv (M2 := mi_M_refused) (pc2 := 52) d_M_later_49 rfl k_M_106 cm_M_refused cv_M_refused (sh_761 hS) (by decide) rfl rfl rfl (Nat.le_of_ble_eq_true rfl) (c_M_refused_0 (I := I) hS hR) (d2 := d - 1) (by omega) (Nat.le_of_eq (Nat.zero_add _)) (Nat.le_of_eq (Nat.zero_add _)) ?_
      obtain ⟨I4, hI4⟩ : ∃ x, x = u2 I 765 0 (I 765 0 + nI 1) := ⟨_, rfl⟩
      rw [← hI4]
      refine Run.ret (some (.int ((-32 : Int32)))) d_M_later_52 ⟨_, rfl⟩ ?_
      exact RQ.bad 0 (by (try simp only [efN, b0fN, b1fN, b2fN, b3fN, b4fN, b5fN, b6fN, b8fN, b9fN, Int.toNat_natCast] at c1); (unfold o_later); (try dsimp only); (try simp only [efN, b0fN, b1fN, b2fN, b3fN, b4fN, b5fN, b6fN, b8fN, b9fN, Int.toNat_natCast]); (repeat (first | rw [if_pos (by omega)] | rw [if_neg (by omega)] | (rw [hopkkey]; try dsimp only))); (try rfl); (all_goals first | rfl | (simp only [a0fN, a1fN, a2fN, a3fN, a4fN, a5fN, a6fN, a8fN, a9fN]; done) | (congr 2; omega) | ((repeat' split) <;> first | rfl | (simp only [a0fN, a1fN, a2fN, a3fN, a4fN, a5fN, a6fN, a8fN, a9fN]; done) | (exfalso; omega) | (congr 2; omega) | skip)); (try rfl)) (by decide) FrS.rf hI4
  | some pkkey =>
    obtain ⟨hppkkey, hqpkkey, -⟩ := fst1_spec (show fst1 _ _ = some pkkey from hopkkey)
    refine r_istore (pc2 := 7) d_M_later_5 rfl (Nat.le_of_ble_eq_true rfl) ?_
    refine r_aload_n (x := some 761) (pc2 := 8) d_M_later_7 rfl rfl ?_
    refine r_iload_n (pc2 := 9) d_M_later_8 rfl rfl ?_
    refine q_callv (M2 := mi_M_isFeature) (pc2 := 12) d_M_later_9 rfl k_M_72 cm_M_isFeature cv_M_isFeature (sh_761 hS) (by decide) rfl rfl rfl (Nat.le_of_ble_eq_true rfl) (c_M_isFeature (I := I) (nF := nF) (f := f) hS hR (hFc) hF12 (by omega)) (d2 := d - 1) (by omega) (Nat.le_of_eq (Nat.zero_add _)) (Nat.le_of_eq (Nat.zero_add _)) ?_
    refine q_bif_eq (tgt := 46) (pc2 := 15) d_M_later_12 rfl rfl (fun c5 => ?_) (fun c5 => ?_)
    · refine r_aload_n (x := some 761) (pc2 := 47) d_M_later_46 rfl rfl ?_
      refine r_bipush (v := (-32 : Int32)) (pc2 := 49) d_M_later_47 rfl (by decide) ?_
      refine q_callv (M2 := mi_M_refused) (pc2 := 52) d_M_later_49 rfl k_M_106 cm_M_refused cv_M_refused (sh_761 hS) (by decide) rfl rfl rfl (Nat.le_of_ble_eq_true rfl) (c_M_refused_0 (I := I) hS hR) (d2 := d - 1) (by omega) (Nat.le_of_eq (Nat.zero_add _)) (Nat.le_of_eq (Nat.zero_add _)) ?_
      obtain ⟨I6, hI6⟩ : ∃ x, x = u2 I 765 0 (I 765 0 + nI 1) := ⟨_, rfl⟩
      rw [← hI6]
      refine Run.ret (some (.int ((-32 : Int32)))) d_M_later_52 ⟨_, rfl⟩ ?_
      exact RQ.bad 0 (by (unfold o_later); (try dsimp only); (try simp only [Int.toNat_natCast]); (repeat (first | rw [if_pos (by omega)] | rw [if_neg (by omega)] | (rw [hopkkey]; try dsimp only))); (try rfl); (all_goals first | rfl | (congr 2; omega) | ((repeat' split) <;> first | rfl | (exfalso; omega) | (congr 2; omega) | skip)); (try rfl)) (by decide) FrS.rf hI6
    · obtain ⟨fN, hfN, rfl, efN⟩ := nat_of c5
      obtain ⟨tpfN, klfN, skfN, fbfN, nRfN, nNfN, nOfN, frfN, tofN, ⟨a0fN, b0fN, cc0fN, dd0fN⟩, ⟨a1fN, b1fN, cc1fN, dd1fN⟩, ⟨a2fN, b2fN, cc2fN, dd2fN⟩, ⟨a3fN, b3fN, cc3fN, dd3fN⟩, ⟨a4fN, b4fN, cc4fN, dd4fN⟩, ⟨a5fN, b5fN, cc5fN, dd5fN⟩, ⟨a6fN, b6fN, cc6fN, dd6fN⟩, ⟨a8fN, b8fN, cc8fN, dd8fN⟩, ⟨a9fN, b9fN, cc9fN, dd9fN⟩⟩ := wfn (hWF fN hfN)
      obtain ⟨-, -, -, -, -, -, -, w7fN, -, -, wNfN, wRfN, wKfN, wOfN⟩ := hWF fN hfN
      refine r_iload (pc2 := 17) d_M_later_15 rfl rfl ?_
      refine q_if_lt (tgt := 46) (A := ((pkkey : Nat) : Int)) (pc2 := 20) d_M_later_17 rfl rfl (nI_toInt (by omega)) (fun c7 => ?_) (fun c7 => ?_)
      · exfalso; omega
      refine r_iload_n (pc2 := 21) d_M_later_20 rfl rfl ?_
      refine r_i2l (pc2 := 22) d_M_later_21 rfl ?_
      refine r_aload_n (x := some 761) (pc2 := 23) d_M_later_22 rfl rfl ?_
      refine q_getR (x := some 762) (pc2 := 26) d_M_later_23 rfl k_M_9 rfl (sh_761 hS) (rf_761_0 hR) ?_
      refine r_iconst (v := nI 3) (pc2 := 27) d_M_later_26 rfl (by decide) ?_
      refine q_iaload (q := 3) (x := I 762 3) (pc2 := 28) d_M_later_27 rfl (sh_762 hS) (nI_toInt (by omega)) (by omega) rfl ?_
      refine r_i2l (pc2 := 29) d_M_later_28 rfl ?_
      refine r_aload_n (x := some 761) (pc2 := 30) d_M_later_29 rfl rfl ?_
      refine q_getR (x := some 762) (pc2 := 33) d_M_later_30 rfl k_M_9 rfl (sh_761 hS) (rf_761_0 hR) ?_
      refine r_iconst (v := nI 3) (pc2 := 34) d_M_later_33 rfl (by decide) ?_
      refine q_iaload (q := 3) (x := I 762 3) (pc2 := 35) d_M_later_34 rfl (sh_762 hS) (nI_toInt (by omega)) (by omega) rfl ?_
      refine r_i2l (pc2 := 36) d_M_later_35 rfl ?_
      refine r_ldc2 (pc2 := 39) d_M_later_36 rfl k_M_214 ?_
      refine r_ladd (pc2 := 40) d_M_later_39 rfl ?_
      refine q_calls (M2 := mi_M_in) (pc2 := 43) d_M_later_40 rfl k_M_68 cm_M_in cs_M_in rfl rfl (Nat.le_of_ble_eq_true rfl) (c_M_in (A := t.toInt) (B := (I 762 3).toInt) (C := (I 762 3).toInt + (9999 : Int)) (toInt64_toInt (rfl)) (toInt64_toInt (rfl)) (l64_add (toInt64_toInt (rfl)) (by decide) (by decide))) (d2 := d - 1) (by omega) (Nat.le_of_eq (Nat.zero_add _)) (Nat.le_of_eq (Nat.zero_add _)) ?_
      refine q_bif_ne (tgt := 53) (pc2 := 46) d_M_later_43 rfl rfl (fun c8 => ?_) (fun c8 => ?_)
      · refine r_aload_n (x := some 761) (pc2 := 54) d_M_later_53 rfl rfl ?_
        refine q_getR (x := some 762) (pc2 := 57) d_M_later_54 rfl k_M_9 rfl (sh_761 hS) (rf_761_0 hR) ?_
        refine r_aload_n (x := some 761) (pc2 := 58) d_M_later_57 rfl rfl ?_
        refine q_getR (x := some 763) (pc2 := 61) d_M_later_58 rfl k_M_13 rfl (sh_761 hS) (rf_761_1 hR) ?_
        refine q_callsV (M2 := mi_M_copies) (pc2 := 64) d_M_later_61 rfl k_M_249 cm_M_copies cs_M_copies rfl rfl (Nat.le_of_ble_eq_true rfl) (c_M_copies (I := I) (a := 762) (b := 763) (sh_762 hS) (sh_763 hS) (by decide)) (d2 := d - 1) (by omega) (Nat.le_of_eq (Nat.zero_add _)) (Nat.le_of_eq (Nat.zero_add _)) ?_
        obtain ⟨J9, hJ9⟩ : ∃ x, x = cpy I 762 763 1182 := ⟨_, rfl⟩
        rw [← hJ9]
        have fJ9 : FrS (setR I 762 (I 762)) J9 := by rw [hJ9]; exact FrS.cpy763
        have hGJ9 := fJ9.row2
        have hsa := stI_all (t := t) nS (I 762) hW hTt
        have hW2 := hsa.1
        have hrk2 := stI_K (t := t) hW hTt hrk
        refine r_aload_n (x := some 761) (pc2 := 65) d_M_later_64 rfl rfl ?_
        refine r_iload_n (pc2 := 66) d_M_later_65 rfl rfl ?_
        have hr11 : J9 762 = (I 762) := fJ9.row2
        refine q_callv (M2 := mi_M_stepsTill) (pc2 := 69) d_M_later_66 rfl k_M_246 cm_M_stepsTill cv_M_stepsTill (sh_761 hS) (by decide) rfl rfl rfl (Nat.le_of_ble_eq_true rfl) (c_M_stepsTill (I := J9) hS hR (nS := nS) (t := t) (by rw [hr11]; exact hW) (by rw [hr11]; exact hTt) (by omega)) (d2 := d - 1) (by omega) (Nat.le_of_eq (Nat.zero_add _)) (Nat.le_of_eq (Nat.zero_add _)) ?_
        obtain ⟨K10, hK10⟩ : ∃ x, x = setR J9 762 (stI t nS (J9 762)).2 := ⟨_, rfl⟩
        rw [← hK10]
        refine q_top (y := nI (stI t nS (I 762)).1) (by rw [hr11]) ?_
        have fK10 : FrS (setR I 762 (stI t nS (I 762)).2) K10 := by rw [hK10, hr11]; exact fJ9.setR2
        have hGK10 := fK10.row2
        refine r_istore (pc2 := 71) d_M_later_69 rfl (Nat.le_of_ble_eq_true rfl) ?_
        refine r_aload_n (x := some 761) (pc2 := 72) d_M_later_71 rfl rfl ?_
        refine r_iload_n (pc2 := 73) d_M_later_72 rfl rfl ?_
        refine r_iload (pc2 := 75) d_M_later_73 rfl rfl ?_
        refine r_callv (M2 := mi_M_fresh) (pc2 := 78) d_M_later_75 rfl k_M_201 cm_M_fresh cv_M_fresh (sh_761 hS) (by decide) rfl rfl rfl (Nat.le_of_ble_eq_true rfl) (c_M_freshG hS hR hT hTn hV hnt hnk (G := ((stI t nS (I 762)).2)) hW2 hrk2 (p := pkkey) (by omega) (F := fN) (by omega) (J := K10) fK10 (d := d - 1) (by omega)) (d2 := d - 1) (by omega) (Nat.le_of_eq (Nat.zero_add _)) (Nat.le_of_eq (Nat.zero_add _)) (fun r2 h2 hq2 => ?_)
        obtain ⟨K12, rfl, rfl, hAK12, haK12, hbK12, hcK12⟩ := hq2
        change Run _ _ _ _ _ _ [.int ((AN (TRE I kA fA cA gA) ((stI t nS (I 762)).2) pkkey fN).1)] _ _
        have hK12 : FrS (setR I 762 ((stI t nS (I 762)).2)) K12 := fK10.tr hAK12.s
        have hGK12 := hK12.row2
        refine r_istore (pc2 := 80) d_M_later_78 rfl (Nat.le_of_ble_eq_true rfl) ?_
        refine r_aload_n (x := some 761) (pc2 := 81) d_M_later_80 rfl rfl ?_
        refine q_getR (x := some 763) (pc2 := 84) d_M_later_81 rfl k_M_13 rfl (sh_761 hS) (rf_761_1 hR) ?_
        refine r_aload_n (x := some 761) (pc2 := 85) d_M_later_84 rfl rfl ?_
        refine q_getR (x := some 762) (pc2 := 88) d_M_later_85 rfl k_M_9 rfl (sh_761 hS) (rf_761_0 hR) ?_
        refine q_callsV (M2 := mi_M_copies) (pc2 := 91) d_M_later_88 rfl k_M_249 cm_M_copies cs_M_copies rfl rfl (Nat.le_of_ble_eq_true rfl) (c_M_copies (I := K12) (a := 763) (b := 762) (sh_763 hS) (sh_762 hS) (by decide)) (d2 := d - 1) (by omega) (Nat.le_of_eq (Nat.zero_add _)) (Nat.le_of_eq (Nat.zero_add _)) ?_
        obtain ⟨J13, hJ13⟩ : ∃ x, x = cpy K12 763 762 1182 := ⟨_, rfl⟩
        rw [← hJ13]
        refine r_iload (pc2 := 93) d_M_later_91 rfl rfl ?_
        refine Run.ret (some (.int ((AN (TRE I kA fA cA gA) ((stI t nS (I 762)).2) pkkey fN).1))) d_M_later_93 ⟨_, rfl⟩ ?_
        exact RQ.val (by (try simp only [efN, b0fN, b1fN, b2fN, b3fN, b4fN, b5fN, b6fN, b8fN, b9fN, Int.toNat_natCast] at c5 c8); (unfold o_later); (try dsimp only); (try simp only [efN, b0fN, b1fN, b2fN, b3fN, b4fN, b5fN, b6fN, b8fN, b9fN, Int.toNat_natCast]); (repeat (first | rw [if_pos (by omega)] | rw [if_neg (by omega)] | (rw [hopkkey]; try dsimp only))); (try rfl); (all_goals first | rfl | (simp only [a0fN, a1fN, a2fN, a3fN, a4fN, a5fN, a6fN, a8fN, a9fN]; done) | (congr 2; omega) | ((repeat' split) <;> first | rfl | (simp only [a0fN, a1fN, a2fN, a3fN, a4fN, a5fN, a6fN, a8fN, a9fN]; done) | (exfalso; omega) | (congr 2; omega) | skip))) (by rw [hJ13]; exact later_fr fK10 (fun j => by rw [hK10, setR_o (by decide), hJ9]) hAK12 (fun j hj => hsa.2.2.2.1 j (by omega)))
      · refine r_aload_n (x := some 761) (pc2 := 47) d_M_later_46 rfl rfl ?_
        refine r_bipush (v := (-32 : Int32)) (pc2 := 49) d_M_later_47 rfl (by decide) ?_
        refine q_callv (M2 := mi_M_refused) (pc2 := 52) d_M_later_49 rfl k_M_106 cm_M_refused cv_M_refused (sh_761 hS) (by decide) rfl rfl rfl (Nat.le_of_ble_eq_true rfl) (c_M_refused_0 (I := I) hS hR) (d2 := d - 1) (by omega) (Nat.le_of_eq (Nat.zero_add _)) (Nat.le_of_eq (Nat.zero_add _)) ?_
        obtain ⟨I14, hI14⟩ : ∃ x, x = u2 I 765 0 (I 765 0 + nI 1) := ⟨_, rfl⟩
        rw [← hI14]
        refine Run.ret (some (.int ((-32 : Int32)))) d_M_later_52 ⟨_, rfl⟩ ?_
        exact RQ.bad 0 (by (try simp only [efN, b0fN, b1fN, b2fN, b3fN, b4fN, b5fN, b6fN, b8fN, b9fN, Int.toNat_natCast] at c5 c8); (unfold o_later); (try dsimp only); (try simp only [efN, b0fN, b1fN, b2fN, b3fN, b4fN, b5fN, b6fN, b8fN, b9fN, Int.toNat_natCast]); (repeat (first | rw [if_pos (by omega)] | rw [if_neg (by omega)] | (rw [hopkkey]; try dsimp only))); (try rfl); (all_goals first | rfl | (simp only [a0fN, a1fN, a2fN, a3fN, a4fN, a5fN, a6fN, a8fN, a9fN]; done) | (congr 2; omega) | ((repeat' split) <;> first | rfl | (simp only [a0fN, a1fN, a2fN, a3fN, a4fN, a5fN, a6fN, a8fN, a9fN]; done) | (exfalso; omega) | (congr 2; omega) | skip)); (try rfl)) (by decide) FrS.rf hI14
theorem l_M_enough {d : Nat} {I : Nat → Nat → Int32} {R : Nat → Nat → Option Nat} {L : Nat → Nat → Int64} {sh : Nat → Nat × Nat} {N : Nat} (hS : ShOK sh) (hR : RfOK R) {kA fA cA gA nk nt : Nat} (hT : TRf R sh kA fA cA gA nk) (hTn : TNe kA fA cA gA) (hV : TV (I kA) (I fA) (I cA) nt) (hnt : nt ≤ nk) (hnk : nk ≤ 1000000) {nP nF : Nat} {G : Nat → Int32} (hW : WFA G nP nF nt) {rk : Nat → Nat} (hrk : RK G nF rk) {F r k v : Nat} (hF : F < nF) (hk : 1 ≤ k ∧ k ≤ 3) (hr6 : r < 6) (hv : v ≤ 334) {P : Nat → Bool} (hP : ∀ p, P p = enP (TRE I kA fA cA gA) G F r k v p) {Q : Option Value → HS → Prop} (hq : ∀ K, FrS (setR I 762 G) K → Q (some (.int (nI (cnt P nP)))) (K, R, L, sh, N)) (hd : nt + 35 ≤ d) : ∀ (n_ : Nat) (i : Nat) (J : Nat → Nat → Int32), nP - i = n_ → (FrS (setR I 762 G) J) → (i ≤ nP) → Run mi_M_enough d 0 0 6 [(0, .ref 761), (1, .int (nI F)), (2, .int (nI r)), (3, .int (nI k)), (4, .int (nI v)), (5, .int (nI (cnt P i))), (6, .int (nI i))] [] (J, R, L, sh, N) Q := by
  intro n_
  induction n_ using Nat.strongRecOn with | ind n_ ih_ => ?_
  intro i J hn_ v0_ v1_
  have hGJ := v0_.row2
  obtain ⟨hPc, hP24, hFc, hF12, hWF, hWP⟩ := id hW
  refine r_iload (pc2 := 8) d_M_enough_6 rfl rfl ?_
  refine r_aload_n (x := some 761) (pc2 := 9) d_M_enough_8 rfl rfl ?_
  refine q_getR (x := some 762) (pc2 := 12) d_M_enough_9 rfl k_M_9 rfl (sh_761 hS) (rf_761_0 hR) ?_
  refine r_iconst (v := nI 0) (pc2 := 13) d_M_enough_12 rfl (by decide) ?_
  refine q_iaload (q := 0) (x := nI nP) (pc2 := 14) d_M_enough_13 rfl (sh_762 hS) (nI_toInt (by omega)) (by omega) ((congrFun hGJ _).trans (hPc)) ?_
  refine q_icmp_ge (tgt := 121) (A := ((i : Nat) : Int)) (B := ((nP : Nat) : Int)) (pc2 := 17) d_M_enough_14 rfl rfl (nI_toInt (by omega)) (nI_toInt (by omega)) (fun c1 => ?_) (fun c1 => ?_)
  · refine r_iload (pc2 := 123) d_M_enough_121 rfl rfl ?_
    refine Run.ret (some (.int (nI (cnt P i)))) d_M_enough_123 ⟨_, rfl⟩ ?_
    rw [show i = nP by omega]; exact hq J v0_
  · refine r_aload_n (x := some 761) (pc2 := 18) d_M_enough_17 rfl rfl ?_
    refine r_iload_n (pc2 := 19) d_M_enough_18 rfl rfl ?_
    refine r_iload (pc2 := 21) d_M_enough_19 rfl rfl ?_
    refine r_callv (M2 := mi_M_fresh) (pc2 := 24) d_M_enough_21 rfl k_M_201 cm_M_fresh cv_M_fresh (sh_761 hS) (by decide) rfl rfl rfl (Nat.le_of_ble_eq_true rfl) (c_M_freshG hS hR hT hTn hV hnt hnk (G := G) hW hrk (p := i) (by omega) (F := F) (by omega) (J := J) v0_ (d := d - 1) (by omega)) (d2 := d - 1) (by omega) (Nat.le_of_eq (Nat.zero_add _)) (Nat.le_of_eq (Nat.zero_add _)) (fun r2 h2 hq2 => ?_)
    obtain ⟨K2, rfl, rfl, hAK2, haK2, hbK2, hcK2⟩ := hq2
    change Run _ _ _ _ _ _ [.int ((AN (TRE I kA fA cA gA) G i F).1)] _ _
    have hK2 : FrS (setR I 762 G) K2 := v0_.tr hAK2.s
    have hGK2 := hK2.row2
    refine r_iload_n (pc2 := 25) d_M_enough_24 rfl rfl ?_
    refine q_icmp_ne (tgt := 32) (A := ((AN (TRE I kA fA cA gA) G i F).1).toInt) (B := ((k : Nat) : Int)) (pc2 := 28) d_M_enough_25 rfl rfl (rfl) (nI_toInt (by omega)) (fun c3 => ?_) (fun c3 => ?_)
    · refine r_iconst (v := nI 0) (pc2 := 33) d_M_enough_32 rfl (by decide) ?_
      refine r_istore (pc2 := 35) d_M_enough_33 rfl (Nat.le_of_ble_eq_true rfl) ?_
      refine r_iload_n (pc2 := 36) d_M_enough_35 rfl rfl ?_
      refine r_iconst (v := nI 1) (pc2 := 37) d_M_enough_36 rfl (by decide) ?_
      refine q_iaddN (pc2 := 38) d_M_enough_37 rfl ?_
      refine r_aload_n (x := some 761) (pc2 := 39) d_M_enough_38 rfl rfl ?_
      refine r_iload (pc2 := 41) d_M_enough_39 rfl rfl ?_
      refine q_callv (M2 := mi_M_keyOf) (pc2 := 44) d_M_enough_41 rfl k_M_84 cm_M_keyOf cv_M_keyOf (sh_761 hS) (by decide) rfl rfl rfl (Nat.le_of_ble_eq_true rfl) (c_M_keyOf (I := K2) (p := i) hS hR (by omega)) (d2 := d - 1) (by omega) (Nat.le_of_eq (Nat.zero_add _)) (Nat.le_of_eq (Nat.zero_add _)) ?_
      refine q_top (y := G (6 + 2 * i)) (congrFun hGK2 _) ?_
      refine q_calls (M2 := mi_M_bucketOf) (pc2 := 47) d_M_enough_44 rfl k_M_161 cm_M_bucketOf cs_M_bucketOf rfl rfl (Nat.le_of_ble_eq_true rfl) (c_M_bucketOf (s := nI (F + 1)) (k := G (6 + 2 * i))) (d2 := d - 1) (by omega) (Nat.le_of_eq (Nat.zero_add _)) (Nat.le_of_eq (Nat.zero_add _)) ?_
      obtain ⟨B, hB⟩ : ∃ B, B = bkt (nI (F + 1)) (G (6 + 2 * i)) := ⟨_, rfl⟩
      have hbr : 0 ≤ B.toInt ∧ B.toInt < 1000 := by rw [hB]; exact bkt_rng _ _
      rw [← hB]
      refine r_sipush (v := nI 333) (pc2 := 50) d_M_enough_47 rfl (by decide) ?_
      refine r_iload_n (pc2 := 51) d_M_enough_50 rfl rfl ?_
      refine r_iconst (v := nI 1) (pc2 := 52) d_M_enough_51 rfl (by decide) ?_
      refine q_isubN (pc2 := 53) d_M_enough_52 rfl (by omega) ?_
      refine q_imulN (pc2 := 54) d_M_enough_53 rfl ?_
      refine q_isubV (pc2 := 55) d_M_enough_54 rfl (A := B.toInt) (B := ((333 * (k - 1) : Nat) : Int)) (rfl) (nI_toInt (by omega)) (by constructor <;> omega) (fun y4 ey4 hy4 => ?_)
      refine r_istore (pc2 := 57) d_M_enough_55 rfl (Nat.le_of_ble_eq_true rfl) ?_
      refine r_iload (pc2 := 59) d_M_enough_57 rfl rfl ?_
      refine r_aload_n (x := some 761) (pc2 := 60) d_M_enough_59 rfl rfl ?_
      refine q_getR (x := some 773) (pc2 := 63) d_M_enough_60 rfl k_M_43 rfl (sh_761 hS) (rf_761_18 hR) ?_
      refine r_iload_n (pc2 := 64) d_M_enough_63 rfl rfl ?_
      refine q_iaload (q := F) (x := (AN (TRE I kA fA cA gA) G i F).2.1) (pc2 := 65) d_M_enough_64 rfl (sh_773 hS) (nI_toInt (by omega)) (by omega) hbK2 ?_
      refine r_bipush (v := nI 6) (pc2 := 67) d_M_enough_65 rfl (by decide) ?_
      refine q_icmp_ne (tgt := 96) (A := ((AN (TRE I kA fA cA gA) G i F).2.1).toInt) (B := (6 : Int)) (pc2 := 70) d_M_enough_67 rfl rfl (rfl) (nI_toInt (by omega)) (fun c5 => ?_) (fun c5 => ?_)
      · refine r_iconst (v := nI 0) (pc2 := 97) d_M_enough_96 rfl (by decide) ?_
        refine r_ior (pc2 := 98) d_M_enough_97 rfl ?_
        refine q_top (y := nI 0) (by decide) ?_
        refine r_istore (pc2 := 100) d_M_enough_98 rfl (Nat.le_of_ble_eq_true rfl) ?_
        refine r_iload (pc2 := 102) d_M_enough_100 rfl rfl ?_
        refine r_iload (pc2 := 104) d_M_enough_102 rfl rfl ?_
        refine q_if_eq (tgt := 111) (A := (0 : Int)) (pc2 := 107) d_M_enough_104 rfl rfl (nI_toInt (by omega)) (fun c6 => ?_) (fun c6 => ?_)
        rotate_left
        · exfalso; omega
        refine r_iconst (v := nI 0) (pc2 := 112) d_M_enough_111 rfl (by decide) ?_
        refine q_iaddN (pc2 := 113) d_M_enough_112 rfl ?_
        refine q_top (y := nI (cnt P (i + 1))) (by rw [cnt_s, if_neg (by rw [hP]; unfold enP; rw [← hB]; simp only [decide_eq_true_eq]; omega)]) ?_
        refine r_istore (pc2 := 115) d_M_enough_113 rfl (Nat.le_of_ble_eq_true rfl) ?_
        refine q_iinc (b := 1) (pc2 := 118) d_M_enough_115 rfl rfl (by decide) (Nat.le_of_ble_eq_true rfl) ?_
        refine r_goto (tgt := 6) d_M_enough_118 rfl ?_
        refine Run.sub (l2 := [(0, .ref 761), (1, .int (nI F)), (2, .int (nI r)), (3, .int (nI k)), (4, .int (nI v)), (5, .int (nI (cnt P (i + 1)))), (6, .int (nI (i + 1)))]) ⟨rfl, rfl, rfl, rfl, rfl, rfl, rfl, trivial⟩ ?_
        exact ih_ (nP - (i + 1)) (by omega) (i + 1) K2 rfl (hK2) (by omega)
      · refine r_aload_n (x := some 761) (pc2 := 71) d_M_enough_70 rfl rfl ?_
        refine q_getR (x := some 774) (pc2 := 74) d_M_enough_71 rfl k_M_46 rfl (sh_761 hS) (rf_761_19 hR) ?_
        refine r_iload_n (pc2 := 75) d_M_enough_74 rfl rfl ?_
        refine q_iaload (q := F) (x := (AN (TRE I kA fA cA gA) G i F).2.2) (pc2 := 76) d_M_enough_75 rfl (sh_774 hS) (nI_toInt (by omega)) (by omega) hcK2 ?_
        refine r_iload_n (pc2 := 77) d_M_enough_76 rfl rfl ?_
        refine q_icmp_ne (tgt := 96) (A := ((AN (TRE I kA fA cA gA) G i F).2.2).toInt) (B := ((r : Nat) : Int)) (pc2 := 80) d_M_enough_77 rfl rfl (rfl) (nI_toInt (by omega)) (fun c7 => ?_) (fun c7 => ?_)
        · refine r_iconst (v := nI 0) (pc2 := 97) d_M_enough_96 rfl (by decide) ?_
          refine r_ior (pc2 := 98) d_M_enough_97 rfl ?_
          refine q_top (y := nI 0) (by decide) ?_
          refine r_istore (pc2 := 100) d_M_enough_98 rfl (Nat.le_of_ble_eq_true rfl) ?_
          refine r_iload (pc2 := 102) d_M_enough_100 rfl rfl ?_
          refine r_iload (pc2 := 104) d_M_enough_102 rfl rfl ?_
          refine q_if_eq (tgt := 111) (A := (0 : Int)) (pc2 := 107) d_M_enough_104 rfl rfl (nI_toInt (by omega)) (fun c8 => ?_) (fun c8 => ?_)
          rotate_left
          · exfalso; omega
          refine r_iconst (v := nI 0) (pc2 := 112) d_M_enough_111 rfl (by decide) ?_
          refine q_iaddN (pc2 := 113) d_M_enough_112 rfl ?_
          refine q_top (y := nI (cnt P (i + 1))) (by rw [cnt_s, if_neg (by rw [hP]; unfold enP; rw [← hB]; simp only [decide_eq_true_eq]; omega)]) ?_
          refine r_istore (pc2 := 115) d_M_enough_113 rfl (Nat.le_of_ble_eq_true rfl) ?_
          refine q_iinc (b := 1) (pc2 := 118) d_M_enough_115 rfl rfl (by decide) (Nat.le_of_ble_eq_true rfl) ?_
          refine r_goto (tgt := 6) d_M_enough_118 rfl ?_
          refine Run.sub (l2 := [(0, .ref 761), (1, .int (nI F)), (2, .int (nI r)), (3, .int (nI k)), (4, .int (nI v)), (5, .int (nI (cnt P (i + 1)))), (6, .int (nI (i + 1)))]) ⟨rfl, rfl, rfl, rfl, rfl, rfl, rfl, trivial⟩ ?_
          exact ih_ (nP - (i + 1)) (by omega) (i + 1) K2 rfl (hK2) (by omega)
        · refine r_iload (pc2 := 82) d_M_enough_80 rfl rfl ?_
          refine q_if_lt (tgt := 96) (A := B.toInt - ((333 * (k - 1) : Nat) : Int)) (pc2 := 85) d_M_enough_82 rfl rfl (hy4) (fun c9 => ?_) (fun c9 => ?_)
          · refine r_iconst (v := nI 0) (pc2 := 97) d_M_enough_96 rfl (by decide) ?_
            refine r_ior (pc2 := 98) d_M_enough_97 rfl ?_
            refine q_top (y := nI 0) (by decide) ?_
            refine r_istore (pc2 := 100) d_M_enough_98 rfl (Nat.le_of_ble_eq_true rfl) ?_
            refine r_iload (pc2 := 102) d_M_enough_100 rfl rfl ?_
            refine r_iload (pc2 := 104) d_M_enough_102 rfl rfl ?_
            refine q_if_eq (tgt := 111) (A := (0 : Int)) (pc2 := 107) d_M_enough_104 rfl rfl (nI_toInt (by omega)) (fun c10 => ?_) (fun c10 => ?_)
            rotate_left
            · exfalso; omega
            refine r_iconst (v := nI 0) (pc2 := 112) d_M_enough_111 rfl (by decide) ?_
            refine q_iaddN (pc2 := 113) d_M_enough_112 rfl ?_
            refine q_top (y := nI (cnt P (i + 1))) (by rw [cnt_s, if_neg (by rw [hP]; unfold enP; rw [← hB]; simp only [decide_eq_true_eq]; omega)]) ?_
            refine r_istore (pc2 := 115) d_M_enough_113 rfl (Nat.le_of_ble_eq_true rfl) ?_
            refine q_iinc (b := 1) (pc2 := 118) d_M_enough_115 rfl rfl (by decide) (Nat.le_of_ble_eq_true rfl) ?_
            refine r_goto (tgt := 6) d_M_enough_118 rfl ?_
            refine Run.sub (l2 := [(0, .ref 761), (1, .int (nI F)), (2, .int (nI r)), (3, .int (nI k)), (4, .int (nI v)), (5, .int (nI (cnt P (i + 1)))), (6, .int (nI (i + 1)))]) ⟨rfl, rfl, rfl, rfl, rfl, rfl, rfl, trivial⟩ ?_
            exact ih_ (nP - (i + 1)) (by omega) (i + 1) K2 rfl (hK2) (by omega)
          · refine r_iload (pc2 := 87) d_M_enough_85 rfl rfl ?_
            refine r_iload (pc2 := 89) d_M_enough_87 rfl rfl ?_
            refine q_icmp_ge (tgt := 96) (A := B.toInt - ((333 * (k - 1) : Nat) : Int)) (B := ((v : Nat) : Int)) (pc2 := 92) d_M_enough_89 rfl rfl (hy4) (nI_toInt (by omega)) (fun c11 => ?_) (fun c11 => ?_)
            · refine r_iconst (v := nI 0) (pc2 := 97) d_M_enough_96 rfl (by decide) ?_
              refine r_ior (pc2 := 98) d_M_enough_97 rfl ?_
              refine q_top (y := nI 0) (by decide) ?_
              refine r_istore (pc2 := 100) d_M_enough_98 rfl (Nat.le_of_ble_eq_true rfl) ?_
              refine r_iload (pc2 := 102) d_M_enough_100 rfl rfl ?_
              refine r_iload (pc2 := 104) d_M_enough_102 rfl rfl ?_
              refine q_if_eq (tgt := 111) (A := (0 : Int)) (pc2 := 107) d_M_enough_104 rfl rfl (nI_toInt (by omega)) (fun c12 => ?_) (fun c12 => ?_)
              rotate_left
              · exfalso; omega
              refine r_iconst (v := nI 0) (pc2 := 112) d_M_enough_111 rfl (by decide) ?_
              refine q_iaddN (pc2 := 113) d_M_enough_112 rfl ?_
              refine q_top (y := nI (cnt P (i + 1))) (by rw [cnt_s, if_neg (by rw [hP]; unfold enP; rw [← hB]; simp only [decide_eq_true_eq]; omega)]) ?_
              refine r_istore (pc2 := 115) d_M_enough_113 rfl (Nat.le_of_ble_eq_true rfl) ?_
              refine q_iinc (b := 1) (pc2 := 118) d_M_enough_115 rfl rfl (by decide) (Nat.le_of_ble_eq_true rfl) ?_
              refine r_goto (tgt := 6) d_M_enough_118 rfl ?_
              refine Run.sub (l2 := [(0, .ref 761), (1, .int (nI F)), (2, .int (nI r)), (3, .int (nI k)), (4, .int (nI v)), (5, .int (nI (cnt P (i + 1)))), (6, .int (nI (i + 1)))]) ⟨rfl, rfl, rfl, rfl, rfl, rfl, rfl, trivial⟩ ?_
              exact ih_ (nP - (i + 1)) (by omega) (i + 1) K2 rfl (hK2) (by omega)
            · refine r_iconst (v := nI 1) (pc2 := 93) d_M_enough_92 rfl (by decide) ?_
              refine r_goto (tgt := 97) d_M_enough_93 rfl ?_
              refine r_ior (pc2 := 98) d_M_enough_97 rfl ?_
              refine q_top (y := nI 1) (by decide) ?_
              refine r_istore (pc2 := 100) d_M_enough_98 rfl (Nat.le_of_ble_eq_true rfl) ?_
              refine r_iload (pc2 := 102) d_M_enough_100 rfl rfl ?_
              refine r_iload (pc2 := 104) d_M_enough_102 rfl rfl ?_
              refine q_if_eq (tgt := 111) (A := (1 : Int)) (pc2 := 107) d_M_enough_104 rfl rfl (nI_toInt (by omega)) (fun c13 => ?_) (fun c13 => ?_)
              · exfalso; omega
              refine r_iconst (v := nI 1) (pc2 := 108) d_M_enough_107 rfl (by decide) ?_
              refine r_goto (tgt := 112) d_M_enough_108 rfl ?_
              refine q_iaddN (pc2 := 113) d_M_enough_112 rfl ?_
              refine q_top (y := nI (cnt P (i + 1))) (by rw [cnt_s, if_pos (by rw [hP]; unfold enP; rw [← hB]; simp only [decide_eq_true_eq]; omega)]) ?_
              refine r_istore (pc2 := 115) d_M_enough_113 rfl (Nat.le_of_ble_eq_true rfl) ?_
              refine q_iinc (b := 1) (pc2 := 118) d_M_enough_115 rfl rfl (by decide) (Nat.le_of_ble_eq_true rfl) ?_
              refine r_goto (tgt := 6) d_M_enough_118 rfl ?_
              refine Run.sub (l2 := [(0, .ref 761), (1, .int (nI F)), (2, .int (nI r)), (3, .int (nI k)), (4, .int (nI v)), (5, .int (nI (cnt P (i + 1)))), (6, .int (nI (i + 1)))]) ⟨rfl, rfl, rfl, rfl, rfl, rfl, rfl, trivial⟩ ?_
              exact ih_ (nP - (i + 1)) (by omega) (i + 1) K2 rfl (hK2) (by omega)
    · refine r_iconst (v := nI 1) (pc2 := 29) d_M_enough_28 rfl (by decide) ?_
      refine r_goto (tgt := 33) d_M_enough_29 rfl ?_
      refine r_istore (pc2 := 35) d_M_enough_33 rfl (Nat.le_of_ble_eq_true rfl) ?_
      refine r_iload_n (pc2 := 36) d_M_enough_35 rfl rfl ?_
      refine r_iconst (v := nI 1) (pc2 := 37) d_M_enough_36 rfl (by decide) ?_
      refine q_iaddN (pc2 := 38) d_M_enough_37 rfl ?_
      refine r_aload_n (x := some 761) (pc2 := 39) d_M_enough_38 rfl rfl ?_
      refine r_iload (pc2 := 41) d_M_enough_39 rfl rfl ?_
      refine q_callv (M2 := mi_M_keyOf) (pc2 := 44) d_M_enough_41 rfl k_M_84 cm_M_keyOf cv_M_keyOf (sh_761 hS) (by decide) rfl rfl rfl (Nat.le_of_ble_eq_true rfl) (c_M_keyOf (I := K2) (p := i) hS hR (by omega)) (d2 := d - 1) (by omega) (Nat.le_of_eq (Nat.zero_add _)) (Nat.le_of_eq (Nat.zero_add _)) ?_
      refine q_top (y := G (6 + 2 * i)) (congrFun hGK2 _) ?_
      refine q_calls (M2 := mi_M_bucketOf) (pc2 := 47) d_M_enough_44 rfl k_M_161 cm_M_bucketOf cs_M_bucketOf rfl rfl (Nat.le_of_ble_eq_true rfl) (c_M_bucketOf (s := nI (F + 1)) (k := G (6 + 2 * i))) (d2 := d - 1) (by omega) (Nat.le_of_eq (Nat.zero_add _)) (Nat.le_of_eq (Nat.zero_add _)) ?_
      obtain ⟨B, hB⟩ : ∃ B, B = bkt (nI (F + 1)) (G (6 + 2 * i)) := ⟨_, rfl⟩
      have hbr : 0 ≤ B.toInt ∧ B.toInt < 1000 := by rw [hB]; exact bkt_rng _ _
      rw [← hB]
      refine r_sipush (v := nI 333) (pc2 := 50) d_M_enough_47 rfl (by decide) ?_
      refine r_iload_n (pc2 := 51) d_M_enough_50 rfl rfl ?_
      refine r_iconst (v := nI 1) (pc2 := 52) d_M_enough_51 rfl (by decide) ?_
      refine q_isubN (pc2 := 53) d_M_enough_52 rfl (by omega) ?_
      refine q_imulN (pc2 := 54) d_M_enough_53 rfl ?_
      refine q_isubV (pc2 := 55) d_M_enough_54 rfl (A := B.toInt) (B := ((333 * (k - 1) : Nat) : Int)) (rfl) (nI_toInt (by omega)) (by constructor <;> omega) (fun y14 ey14 hy14 => ?_)
      refine r_istore (pc2 := 57) d_M_enough_55 rfl (Nat.le_of_ble_eq_true rfl) ?_
      refine r_iload (pc2 := 59) d_M_enough_57 rfl rfl ?_
      refine r_aload_n (x := some 761) (pc2 := 60) d_M_enough_59 rfl rfl ?_
      refine q_getR (x := some 773) (pc2 := 63) d_M_enough_60 rfl k_M_43 rfl (sh_761 hS) (rf_761_18 hR) ?_
      refine r_iload_n (pc2 := 64) d_M_enough_63 rfl rfl ?_
      refine q_iaload (q := F) (x := (AN (TRE I kA fA cA gA) G i F).2.1) (pc2 := 65) d_M_enough_64 rfl (sh_773 hS) (nI_toInt (by omega)) (by omega) hbK2 ?_
      refine r_bipush (v := nI 6) (pc2 := 67) d_M_enough_65 rfl (by decide) ?_
      refine q_icmp_ne (tgt := 96) (A := ((AN (TRE I kA fA cA gA) G i F).2.1).toInt) (B := (6 : Int)) (pc2 := 70) d_M_enough_67 rfl rfl (rfl) (nI_toInt (by omega)) (fun c15 => ?_) (fun c15 => ?_)
      · refine r_iconst (v := nI 0) (pc2 := 97) d_M_enough_96 rfl (by decide) ?_
        refine r_ior (pc2 := 98) d_M_enough_97 rfl ?_
        refine q_top (y := nI 1) (by decide) ?_
        refine r_istore (pc2 := 100) d_M_enough_98 rfl (Nat.le_of_ble_eq_true rfl) ?_
        refine r_iload (pc2 := 102) d_M_enough_100 rfl rfl ?_
        refine r_iload (pc2 := 104) d_M_enough_102 rfl rfl ?_
        refine q_if_eq (tgt := 111) (A := (1 : Int)) (pc2 := 107) d_M_enough_104 rfl rfl (nI_toInt (by omega)) (fun c16 => ?_) (fun c16 => ?_)
        · exfalso; omega
        refine r_iconst (v := nI 1) (pc2 := 108) d_M_enough_107 rfl (by decide) ?_
        refine r_goto (tgt := 112) d_M_enough_108 rfl ?_
        refine q_iaddN (pc2 := 113) d_M_enough_112 rfl ?_
        refine q_top (y := nI (cnt P (i + 1))) (by rw [cnt_s, if_pos (by rw [hP]; unfold enP; rw [← hB]; simp only [decide_eq_true_eq]; omega)]) ?_
        refine r_istore (pc2 := 115) d_M_enough_113 rfl (Nat.le_of_ble_eq_true rfl) ?_
        refine q_iinc (b := 1) (pc2 := 118) d_M_enough_115 rfl rfl (by decide) (Nat.le_of_ble_eq_true rfl) ?_
        refine r_goto (tgt := 6) d_M_enough_118 rfl ?_
        refine Run.sub (l2 := [(0, .ref 761), (1, .int (nI F)), (2, .int (nI r)), (3, .int (nI k)), (4, .int (nI v)), (5, .int (nI (cnt P (i + 1)))), (6, .int (nI (i + 1)))]) ⟨rfl, rfl, rfl, rfl, rfl, rfl, rfl, trivial⟩ ?_
        exact ih_ (nP - (i + 1)) (by omega) (i + 1) K2 rfl (hK2) (by omega)
      · refine r_aload_n (x := some 761) (pc2 := 71) d_M_enough_70 rfl rfl ?_
        refine q_getR (x := some 774) (pc2 := 74) d_M_enough_71 rfl k_M_46 rfl (sh_761 hS) (rf_761_19 hR) ?_
        refine r_iload_n (pc2 := 75) d_M_enough_74 rfl rfl ?_
        refine q_iaload (q := F) (x := (AN (TRE I kA fA cA gA) G i F).2.2) (pc2 := 76) d_M_enough_75 rfl (sh_774 hS) (nI_toInt (by omega)) (by omega) hcK2 ?_
        refine r_iload_n (pc2 := 77) d_M_enough_76 rfl rfl ?_
        refine q_icmp_ne (tgt := 96) (A := ((AN (TRE I kA fA cA gA) G i F).2.2).toInt) (B := ((r : Nat) : Int)) (pc2 := 80) d_M_enough_77 rfl rfl (rfl) (nI_toInt (by omega)) (fun c17 => ?_) (fun c17 => ?_)
        · refine r_iconst (v := nI 0) (pc2 := 97) d_M_enough_96 rfl (by decide) ?_
          refine r_ior (pc2 := 98) d_M_enough_97 rfl ?_
          refine q_top (y := nI 1) (by decide) ?_
          refine r_istore (pc2 := 100) d_M_enough_98 rfl (Nat.le_of_ble_eq_true rfl) ?_
          refine r_iload (pc2 := 102) d_M_enough_100 rfl rfl ?_
          refine r_iload (pc2 := 104) d_M_enough_102 rfl rfl ?_
          refine q_if_eq (tgt := 111) (A := (1 : Int)) (pc2 := 107) d_M_enough_104 rfl rfl (nI_toInt (by omega)) (fun c18 => ?_) (fun c18 => ?_)
          · exfalso; omega
          refine r_iconst (v := nI 1) (pc2 := 108) d_M_enough_107 rfl (by decide) ?_
          refine r_goto (tgt := 112) d_M_enough_108 rfl ?_
          refine q_iaddN (pc2 := 113) d_M_enough_112 rfl ?_
          refine q_top (y := nI (cnt P (i + 1))) (by rw [cnt_s, if_pos (by rw [hP]; unfold enP; rw [← hB]; simp only [decide_eq_true_eq]; omega)]) ?_
          refine r_istore (pc2 := 115) d_M_enough_113 rfl (Nat.le_of_ble_eq_true rfl) ?_
          refine q_iinc (b := 1) (pc2 := 118) d_M_enough_115 rfl rfl (by decide) (Nat.le_of_ble_eq_true rfl) ?_
          refine r_goto (tgt := 6) d_M_enough_118 rfl ?_
          refine Run.sub (l2 := [(0, .ref 761), (1, .int (nI F)), (2, .int (nI r)), (3, .int (nI k)), (4, .int (nI v)), (5, .int (nI (cnt P (i + 1)))), (6, .int (nI (i + 1)))]) ⟨rfl, rfl, rfl, rfl, rfl, rfl, rfl, trivial⟩ ?_
          exact ih_ (nP - (i + 1)) (by omega) (i + 1) K2 rfl (hK2) (by omega)
        · refine r_iload (pc2 := 82) d_M_enough_80 rfl rfl ?_
          refine q_if_lt (tgt := 96) (A := B.toInt - ((333 * (k - 1) : Nat) : Int)) (pc2 := 85) d_M_enough_82 rfl rfl (hy14) (fun c19 => ?_) (fun c19 => ?_)
          · refine r_iconst (v := nI 0) (pc2 := 97) d_M_enough_96 rfl (by decide) ?_
            refine r_ior (pc2 := 98) d_M_enough_97 rfl ?_
            refine q_top (y := nI 1) (by decide) ?_
            refine r_istore (pc2 := 100) d_M_enough_98 rfl (Nat.le_of_ble_eq_true rfl) ?_
            refine r_iload (pc2 := 102) d_M_enough_100 rfl rfl ?_
            refine r_iload (pc2 := 104) d_M_enough_102 rfl rfl ?_
            refine q_if_eq (tgt := 111) (A := (1 : Int)) (pc2 := 107) d_M_enough_104 rfl rfl (nI_toInt (by omega)) (fun c20 => ?_) (fun c20 => ?_)
            · exfalso; omega
            refine r_iconst (v := nI 1) (pc2 := 108) d_M_enough_107 rfl (by decide) ?_
            refine r_goto (tgt := 112) d_M_enough_108 rfl ?_
            refine q_iaddN (pc2 := 113) d_M_enough_112 rfl ?_
            refine q_top (y := nI (cnt P (i + 1))) (by rw [cnt_s, if_pos (by rw [hP]; unfold enP; rw [← hB]; simp only [decide_eq_true_eq]; omega)]) ?_
            refine r_istore (pc2 := 115) d_M_enough_113 rfl (Nat.le_of_ble_eq_true rfl) ?_
            refine q_iinc (b := 1) (pc2 := 118) d_M_enough_115 rfl rfl (by decide) (Nat.le_of_ble_eq_true rfl) ?_
            refine r_goto (tgt := 6) d_M_enough_118 rfl ?_
            refine Run.sub (l2 := [(0, .ref 761), (1, .int (nI F)), (2, .int (nI r)), (3, .int (nI k)), (4, .int (nI v)), (5, .int (nI (cnt P (i + 1)))), (6, .int (nI (i + 1)))]) ⟨rfl, rfl, rfl, rfl, rfl, rfl, rfl, trivial⟩ ?_
            exact ih_ (nP - (i + 1)) (by omega) (i + 1) K2 rfl (hK2) (by omega)
          · refine r_iload (pc2 := 87) d_M_enough_85 rfl rfl ?_
            refine r_iload (pc2 := 89) d_M_enough_87 rfl rfl ?_
            refine q_icmp_ge (tgt := 96) (A := B.toInt - ((333 * (k - 1) : Nat) : Int)) (B := ((v : Nat) : Int)) (pc2 := 92) d_M_enough_89 rfl rfl (hy14) (nI_toInt (by omega)) (fun c21 => ?_) (fun c21 => ?_)
            · refine r_iconst (v := nI 0) (pc2 := 97) d_M_enough_96 rfl (by decide) ?_
              refine r_ior (pc2 := 98) d_M_enough_97 rfl ?_
              refine q_top (y := nI 1) (by decide) ?_
              refine r_istore (pc2 := 100) d_M_enough_98 rfl (Nat.le_of_ble_eq_true rfl) ?_
              refine r_iload (pc2 := 102) d_M_enough_100 rfl rfl ?_
              refine r_iload (pc2 := 104) d_M_enough_102 rfl rfl ?_
              refine q_if_eq (tgt := 111) (A := (1 : Int)) (pc2 := 107) d_M_enough_104 rfl rfl (nI_toInt (by omega)) (fun c22 => ?_) (fun c22 => ?_)
              · exfalso; omega
              refine r_iconst (v := nI 1) (pc2 := 108) d_M_enough_107 rfl (by decide) ?_
              refine r_goto (tgt := 112) d_M_enough_108 rfl ?_
              refine q_iaddN (pc2 := 113) d_M_enough_112 rfl ?_
              refine q_top (y := nI (cnt P (i + 1))) (by rw [cnt_s, if_pos (by rw [hP]; unfold enP; rw [← hB]; simp only [decide_eq_true_eq]; omega)]) ?_
              refine r_istore (pc2 := 115) d_M_enough_113 rfl (Nat.le_of_ble_eq_true rfl) ?_
              refine q_iinc (b := 1) (pc2 := 118) d_M_enough_115 rfl rfl (by decide) (Nat.le_of_ble_eq_true rfl) ?_
              refine r_goto (tgt := 6) d_M_enough_118 rfl ?_
              refine Run.sub (l2 := [(0, .ref 761), (1, .int (nI F)), (2, .int (nI r)), (3, .int (nI k)), (4, .int (nI v)), (5, .int (nI (cnt P (i + 1)))), (6, .int (nI (i + 1)))]) ⟨rfl, rfl, rfl, rfl, rfl, rfl, rfl, trivial⟩ ?_
              exact ih_ (nP - (i + 1)) (by omega) (i + 1) K2 rfl (hK2) (by omega)
            · refine r_iconst (v := nI 1) (pc2 := 93) d_M_enough_92 rfl (by decide) ?_
              refine r_goto (tgt := 97) d_M_enough_93 rfl ?_
              refine r_ior (pc2 := 98) d_M_enough_97 rfl ?_
              refine q_top (y := nI 1) (by decide) ?_
              refine r_istore (pc2 := 100) d_M_enough_98 rfl (Nat.le_of_ble_eq_true rfl) ?_
              refine r_iload (pc2 := 102) d_M_enough_100 rfl rfl ?_
              refine r_iload (pc2 := 104) d_M_enough_102 rfl rfl ?_
              refine q_if_eq (tgt := 111) (A := (1 : Int)) (pc2 := 107) d_M_enough_104 rfl rfl (nI_toInt (by omega)) (fun c23 => ?_) (fun c23 => ?_)
              · exfalso; omega
              refine r_iconst (v := nI 1) (pc2 := 108) d_M_enough_107 rfl (by decide) ?_
              refine r_goto (tgt := 112) d_M_enough_108 rfl ?_
              refine q_iaddN (pc2 := 113) d_M_enough_112 rfl ?_
              refine q_top (y := nI (cnt P (i + 1))) (by rw [cnt_s, if_pos (by rw [hP]; unfold enP; rw [← hB]; simp only [decide_eq_true_eq]; omega)]) ?_
              refine r_istore (pc2 := 115) d_M_enough_113 rfl (Nat.le_of_ble_eq_true rfl) ?_
              refine q_iinc (b := 1) (pc2 := 118) d_M_enough_115 rfl rfl (by decide) (Nat.le_of_ble_eq_true rfl) ?_
              refine r_goto (tgt := 6) d_M_enough_118 rfl ?_
              refine Run.sub (l2 := [(0, .ref 761), (1, .int (nI F)), (2, .int (nI r)), (3, .int (nI k)), (4, .int (nI v)), (5, .int (nI (cnt P (i + 1)))), (6, .int (nI (i + 1)))]) ⟨rfl, rfl, rfl, rfl, rfl, rfl, rfl, trivial⟩ ?_
              exact ih_ (nP - (i + 1)) (by omega) (i + 1) K2 rfl (hK2) (by omega)
theorem c_M_enough {d : Nat} {I : Nat → Nat → Int32} {R : Nat → Nat → Option Nat} {L : Nat → Nat → Int64} {sh : Nat → Nat × Nat} {N : Nat} (hS : ShOK sh) (hR : RfOK R) {kA fA cA gA nk nt : Nat} (hT : TRf R sh kA fA cA gA nk) (hTn : TNe kA fA cA gA) (hV : TV (I kA) (I fA) (I cA) nt) (hnt : nt ≤ nk) (hnk : nk ≤ 1000000) {nP nF : Nat} {G : Nat → Int32} (hW : WFA G nP nF nt) {rk : Nat → Nat} (hrk : RK G nF rk) {F r k v : Nat} (hF : F < nF) (hk : 1 ≤ k ∧ k ≤ 3) (hr6 : r < 6) (hv : v ≤ 334) {J : Nat → Nat → Int32} (hJ : FrS (setR I 762 G) J) (hd : nt + 35 ≤ d) : Mt mi_M_enough d 0 0 [.ref 761, .int (nI F), .int (nI r), .int (nI k), .int (nI v)] (J, R, L, sh, N) (fun x h2 => ∃ K, h2 = (K, R, L, sh, N) ∧ x = some (.int (nI (cnt (enP (TRE I kA fA cA gA) G F r k v) nP))) ∧ FrS (setR I 762 G) K) := by
  refine Mt.of pn_M (Nat.le_of_ble_eq_true rfl) ?_
  show Run mi_M_enough d 0 0 0 [(0, .ref 761), (1, .int (nI F)), (2, .int (nI r)), (3, .int (nI k)), (4, .int (nI v))] [] (J, R, L, sh, N) _
  refine r_iconst (v := nI 0) (pc2 := 1) d_M_enough_0 rfl (by decide) ?_
  refine r_istore (pc2 := 3) d_M_enough_1 rfl (Nat.le_of_ble_eq_true rfl) ?_
  refine r_iconst (v := nI 0) (pc2 := 4) d_M_enough_3 rfl (by decide) ?_
  refine r_istore (pc2 := 6) d_M_enough_4 rfl (Nat.le_of_ble_eq_true rfl) ?_
  refine Run.sub (l2 := [(0, .ref 761), (1, .int (nI F)), (2, .int (nI r)), (3, .int (nI k)), (4, .int (nI v)), (5, .int (nI 0)), (6, .int (nI 0))]) ⟨rfl, rfl, rfl, rfl, rfl, rfl, rfl, trivial⟩ ?_
  exact l_M_enough hS hR hT hTn hV hnt hnk hW hrk hF hk hr6 hv (P := enP (TRE I kA fA cA gA) G F r k v) (fun p => rfl) (fun K hK => ⟨K, rfl, rfl, hK⟩) hd _ 0 J rfl hJ (Nat.zero_le _)
theorem l_M_grow {d : Nat} {I : Nat → Nat → Int32} {R : Nat → Nat → Option Nat} {L : Nat → Nat → Int64} {sh : Nat → Nat × Nat} {N : Nat} (hS : ShOK sh) (hR : RfOK R) {kA fA cA gA nk nt : Nat} (hT : TRf R sh kA fA cA gA nk) (hTn : TNe kA fA cA gA) (hV : TV (I kA) (I fA) (I cA) nt) (hnt : nt ≤ nk) (hnk : nk ≤ 1000000) {nP nF : Nat} {G : Nat → Int32} (hW : WFA G nP nF nt) {rk : Nat → Nat} (hrk : RK G nF rk) {F r k n : Nat} {had : Int32} (hF : F < nF) (hkk : 1 ≤ k ∧ k ≤ 3) (hr6 : r < 6) (hn24 : n ≤ 24) {P : Nat → Bool} (hP : ∀ v, P v = decide (n ≤ cnt (enP (TRE I kA fA cA gA) G F r k v) nP)) (hd : nt + 40 ≤ d) {Q : Option Value → HS → Prop} (hk : ∀ J, FrS (setR I 762 G) J → Run mi_M_grow d 0 0 119 [(0, .ref 761), (1, .int (nI F)), (2, .int (nI r)), (3, .int (nI k)), (4, .int (nI n)), (5, .int (nI (174 + 84 * F + 60 + 4 * r + k))), (6, .int had), (7, .int (vo (fst1 P 334)))] [] (J, R, L, sh, N) Q) : ∀ (n_ : Nat) (v : Nat) (J : Nat → Nat → Int32), 334 - v = n_ → (FrS (setR I 762 G) J) → (v ≤ 334) → (∀ j, j < v → P j = false) → Run mi_M_grow d 0 0 78 [(0, .ref 761), (1, .int (nI F)), (2, .int (nI r)), (3, .int (nI k)), (4, .int (nI n)), (5, .int (nI (174 + 84 * F + 60 + 4 * r + k))), (6, .int had), (7, .int ((-1 : Int32))), (8, .int (nI v))] [] (J, R, L, sh, N) Q := by
  intro n_
  induction n_ using Nat.strongRecOn with | ind n_ ih_ => ?_
  intro v J hn_ v0_ v1_ v2_
  have hGJ := v0_.row2
  obtain ⟨hPc, hP24, hFc, hF12, hWF, hWP⟩ := id hW
  have hcl := cnt_le (enP (TRE I kA fA cA gA) G F r k v) nP
  refine r_iload (pc2 := 80) d_M_grow_78 rfl rfl ?_
  refine r_sipush (v := nI 333) (pc2 := 83) d_M_grow_80 rfl (by decide) ?_
  refine q_icmp_gt (tgt := 119) (A := ((v : Nat) : Int)) (B := (333 : Int)) (pc2 := 86) d_M_grow_83 rfl rfl (nI_toInt (by omega)) (nI_toInt (by omega)) (fun c1 => ?_) (fun c1 => ?_)
  · refine Run.sub (l2 := [(0, .ref 761), (1, .int (nI F)), (2, .int (nI r)), (3, .int (nI k)), (4, .int (nI n)), (5, .int (nI (174 + 84 * F + 60 + 4 * r + k))), (6, .int had), (7, .int ((-1 : Int32)))]) ⟨rfl, rfl, rfl, rfl, rfl, rfl, rfl, rfl, trivial⟩ ?_
    rw [fst1_none (fun j hj => v2_ j (by omega))] at hk; exact hk J v0_
  · refine r_iload (pc2 := 88) d_M_grow_86 rfl rfl ?_
    refine q_if_ge (tgt := 119) (A := (-1 : Int)) (pc2 := 91) d_M_grow_88 rfl rfl (by decide) (fun c2 => ?_) (fun c2 => ?_)
    · exfalso; omega
    refine r_aload_n (x := some 761) (pc2 := 92) d_M_grow_91 rfl rfl ?_
    refine r_iload_n (pc2 := 93) d_M_grow_92 rfl rfl ?_
    refine r_iload_n (pc2 := 94) d_M_grow_93 rfl rfl ?_
    refine r_iload_n (pc2 := 95) d_M_grow_94 rfl rfl ?_
    refine r_iload (pc2 := 97) d_M_grow_95 rfl rfl ?_
    refine r_callv (M2 := mi_M_enough) (pc2 := 100) d_M_grow_97 rfl k_M_257 cm_M_enough cv_M_enough (sh_761 hS) (by decide) rfl rfl rfl (Nat.le_of_ble_eq_true rfl) (c_M_enough hS hR hT hTn hV hnt hnk (G := G) hW hrk (F := F) (r := r) (k := k) (v := v) (by omega) (by omega) (by omega) (by omega) (J := J) v0_ (d := d - 1) (by omega)) (d2 := d - 1) (by omega) (Nat.le_of_eq (Nat.zero_add _)) (Nat.le_of_eq (Nat.zero_add _)) (fun r2 h2 hq2 => ?_)
    obtain ⟨K3, rfl, rfl, hK3⟩ := hq2
    change Run _ _ _ _ _ _ [.int (nI (cnt (enP (TRE I kA fA cA gA) G F r k v) nP))] _ _
    have hGK3 := hK3.row2
    refine r_iload (pc2 := 102) d_M_grow_100 rfl rfl ?_
    refine q_icmp_lt (tgt := 110) (A := ((cnt (enP (TRE I kA fA cA gA) G F r k v) nP : Nat) : Int)) (B := ((n : Nat) : Int)) (pc2 := 105) d_M_grow_102 rfl rfl (nI_toInt (by omega)) (nI_toInt (by omega)) (fun c4 => ?_) (fun c4 => ?_)
    · refine r_iconst (v := (-1 : Int32)) (pc2 := 111) d_M_grow_110 rfl (by decide) ?_
      refine r_istore (pc2 := 113) d_M_grow_111 rfl (Nat.le_of_ble_eq_true rfl) ?_
      refine q_iinc (b := 1) (pc2 := 116) d_M_grow_113 rfl rfl (by decide) (Nat.le_of_ble_eq_true rfl) ?_
      refine r_goto (tgt := 78) d_M_grow_116 rfl ?_
      refine Run.sub (l2 := [(0, .ref 761), (1, .int (nI F)), (2, .int (nI r)), (3, .int (nI k)), (4, .int (nI n)), (5, .int (nI (174 + 84 * F + 60 + 4 * r + k))), (6, .int had), (7, .int ((-1 : Int32))), (8, .int (nI (v + 1)))]) ⟨rfl, rfl, rfl, rfl, rfl, rfl, rfl, rfl, rfl, trivial⟩ ?_
      exact ih_ (334 - (v + 1)) (by omega) (v + 1) K3 rfl (hK3) (by omega) (fun j hj => by
        rcases Nat.lt_or_ge j v with q | q
        · exact v2_ j q
        · rw [show j = v by omega, hP]; exact decide_eq_false (by omega))
    · refine r_iload (pc2 := 107) d_M_grow_105 rfl rfl ?_
      refine r_goto (tgt := 111) d_M_grow_107 rfl ?_
      refine r_istore (pc2 := 113) d_M_grow_111 rfl (Nat.le_of_ble_eq_true rfl) ?_
      refine q_iinc (b := 1) (pc2 := 116) d_M_grow_113 rfl rfl (by decide) (Nat.le_of_ble_eq_true rfl) ?_
      refine r_goto (tgt := 78) d_M_grow_116 rfl ?_
      have hfd : fst1 P 334 = some v := fst1_some v2_ (by rw [hP]; exact decide_eq_true (by omega)) (by omega)
      refine r_iload (pc2 := 80) d_M_grow_78 rfl rfl ?_
      refine r_sipush (v := nI 333) (pc2 := 83) d_M_grow_80 rfl (by decide) ?_
      refine q_icmp_gt (tgt := 119) (A := ((v + 1 : Nat) : Int)) (B := (333 : Int)) (pc2 := 86) d_M_grow_83 rfl rfl (nI_toInt (by omega)) (nI_toInt (by omega)) (fun c5 => ?_) (fun c5 => ?_)
      · refine Run.sub (l2 := [(0, .ref 761), (1, .int (nI F)), (2, .int (nI r)), (3, .int (nI k)), (4, .int (nI n)), (5, .int (nI (174 + 84 * F + 60 + 4 * r + k))), (6, .int had), (7, .int (nI v))]) ⟨rfl, rfl, rfl, rfl, rfl, rfl, rfl, rfl, trivial⟩ ?_
        rw [hfd] at hk; exact hk K3 hK3
      · refine r_iload (pc2 := 88) d_M_grow_86 rfl rfl ?_
        refine q_if_ge (tgt := 119) (A := ((v : Nat) : Int)) (pc2 := 91) d_M_grow_88 rfl rfl (nI_toInt (by omega)) (fun c6 => ?_) (fun c6 => ?_)
        rotate_left
        · exfalso; omega
        refine Run.sub (l2 := [(0, .ref 761), (1, .int (nI F)), (2, .int (nI r)), (3, .int (nI k)), (4, .int (nI n)), (5, .int (nI (174 + 84 * F + 60 + 4 * r + k))), (6, .int had), (7, .int (nI v))]) ⟨rfl, rfl, rfl, rfl, rfl, rfl, rfl, rfl, trivial⟩ ?_
        rw [hfd] at hk; exact hk K3 hK3
theorem c_M_grow {d : Nat} {I : Nat → Nat → Int32} {R : Nat → Nat → Option Nat} {L : Nat → Nat → Int64} {sh : Nat → Nat × Nat} {N : Nat} (hS : ShOK sh) (hR : RfOK R) {kA fA cA gA nk nt : Nat} (hT : TRf R sh kA fA cA gA nk) (hTn : TNe kA fA cA gA) (hV : TV (I kA) (I fA) (I cA) nt) (hnt : nt ≤ nk) (hnk : nk ≤ 1000000) {nP nF : Nat} (hW : WFA (I 762) nP nF nt) {rk : Nat → Nat} (hrk : RK (I 762) nF rk) {f : Int32} {s : Int32} {k : Int32} {n : Int32} (hd : nt + 60 ≤ d) : Mt mi_M_grow d 0 0 [.ref 761, .int f, .int s, .int k, .int n] (I, R, L, sh, N) (RQ I R L sh N (o_grow (TRE I kA fA cA gA) (I 762) nP nF f s k n)) := by
  obtain ⟨hPc, hP24, hFc, hF12, hWF, hWP⟩ := id hW
  obtain ⟨hn1, hn2, hn3, hn4⟩ := id hTn
  refine Mt.of pn_M (Nat.le_of_ble_eq_true rfl) ?_
  show Run mi_M_grow d 0 0 0 [(0, .ref 761), (1, .int f), (2, .int s), (3, .int k), (4, .int n)] [] (I, R, L, sh, N) _
  refine r_aload_n (x := some 761) (pc2 := 1) d_M_grow_0 rfl rfl ?_
  refine r_iload_n (pc2 := 2) d_M_grow_1 rfl rfl ?_
  refine r_iload_n (pc2 := 3) d_M_grow_2 rfl rfl ?_
  refine r_iload_n (pc2 := 4) d_M_grow_3 rfl rfl ?_
  refine r_iconst (v := nI 0) (pc2 := 5) d_M_grow_4 rfl (by decide) ?_
  refine q_callv (M2 := mi_M_isPart) (pc2 := 8) d_M_grow_5 rfl k_M_228 cm_M_isPart cv_M_isPart (sh_761 hS) (by decide) rfl rfl rfl (Nat.le_of_ble_eq_true rfl) (c_M_isPart (f := f) (s := s) (k := k) (q := nI 0) hS hR hT hTn hV hnt hnk hW (by omega)) (d2 := d - 1) (by omega) (Nat.le_of_eq (Nat.zero_add _)) (Nat.le_of_eq (Nat.zero_add _)) ?_
  refine q_bif_eq (tgt := 24) (pc2 := 11) d_M_grow_8 rfl rfl (fun c1 => ?_) (fun c1 => ?_)
  · refine r_aload_n (x := some 761) (pc2 := 25) d_M_grow_24 rfl rfl ?_
    refine r_bipush (v := (-32 : Int32)) (pc2 := 27) d_M_grow_25 rfl (by decide) ?_
    refine q_callv (M2 := mi_M_refused) (pc2 := 30) d_M_grow_27 rfl k_M_106 cm_M_refused cv_M_refused (sh_761 hS) (by decide) rfl rfl rfl (Nat.le_of_ble_eq_true rfl) (c_M_refused_0 (I := I) hS hR) (d2 := d - 1) (by omega) (Nat.le_of_eq (Nat.zero_add _)) (Nat.le_of_eq (Nat.zero_add _)) ?_
    obtain ⟨I2, hI2⟩ : ∃ x, x = u2 I 765 0 (I 765 0 + nI 1) := ⟨_, rfl⟩
    rw [← hI2]
    refine Run.ret (some (.int ((-32 : Int32)))) d_M_grow_30 ⟨_, rfl⟩ ?_
    exact RQ.bad 0 (by (unfold o_grow); (try dsimp only); (try simp only [Int.toNat_natCast]); (repeat (first | rw [if_pos (by omega)] | rw [if_neg (by omega)])); (try rfl); (all_goals first | rfl | (congr 2; omega) | ((repeat' split) <;> first | rfl | (exfalso; omega) | (congr 2; omega) | skip)); (try rfl)) (by decide) FrS.rf hI2
  · obtain ⟨q1c1, q2c1, q3c1⟩ := id c1
    obtain ⟨fN, hfN, rfl, efN⟩ := nat_of q1c1.1
    obtain ⟨tpfN, klfN, skfN, fbfN, nRfN, nNfN, nOfN, frfN, tofN, ⟨a0fN, b0fN, cc0fN, dd0fN⟩, ⟨a1fN, b1fN, cc1fN, dd1fN⟩, ⟨a2fN, b2fN, cc2fN, dd2fN⟩, ⟨a3fN, b3fN, cc3fN, dd3fN⟩, ⟨a4fN, b4fN, cc4fN, dd4fN⟩, ⟨a5fN, b5fN, cc5fN, dd5fN⟩, ⟨a6fN, b6fN, cc6fN, dd6fN⟩, ⟨a8fN, b8fN, cc8fN, dd8fN⟩, ⟨a9fN, b9fN, cc9fN, dd9fN⟩⟩ := wfn (hWF fN hfN)
    obtain ⟨-, -, -, -, -, -, -, w7fN, -, -, wNfN, wRfN, wKfN, wOfN⟩ := hWF fN hfN
    simp only [efN, Int.toNat_natCast, b4fN] at q1c1
    obtain ⟨sN, hsN, rfl, esN⟩ := nat_of q1c1.2
    obtain ⟨rtfNsN, rafNsN, rbfNsN, rcfNsN, ⟨t0fNsN, t1fNsN, t2fNsN⟩, ⟨u0fNsN, u1fNsN, u2fNsN⟩, ⟨v0fNsN, v1fNsN, v2fNsN⟩, ⟨x0fNsN, x1fNsN, x2fNsN⟩⟩ := wrn (wRfN sN (by omega))
    simp only [efN, Int.toNat_natCast, b0fN] at q2c1
    obtain ⟨kN, hkN, gkN, rfl, ekN⟩ := nat_of' (show (0 : Int) ≤ 1 by decide) q2c1
    refine r_iload (pc2 := 13) d_M_grow_11 rfl rfl ?_
    refine r_i2l (pc2 := 14) d_M_grow_13 rfl ?_
    refine r_lconst (v := (0 : Int64)) (pc2 := 15) d_M_grow_14 rfl (by decide) ?_
    refine r_ldc2 (pc2 := 18) d_M_grow_15 rfl k_M_255 ?_
    refine q_calls (M2 := mi_M_in) (pc2 := 21) d_M_grow_18 rfl k_M_68 cm_M_in cs_M_in rfl rfl (Nat.le_of_ble_eq_true rfl) (c_M_in (A := n.toInt) (B := (0 : Int)) (C := (24 : Int)) (toInt64_toInt (rfl)) (by decide) (by decide)) (d2 := d - 1) (by omega) (Nat.le_of_eq (Nat.zero_add _)) (Nat.le_of_eq (Nat.zero_add _)) ?_
    refine q_bif_ne (tgt := 31) (pc2 := 24) d_M_grow_21 rfl rfl (fun c3 => ?_) (fun c3 => ?_)
    · obtain ⟨nN, hnN, gnN, rfl, enN⟩ := nat_of' (show (0 : Int) ≤ (0 : Int) by decide) c3
      refine r_aload_n (x := some 761) (pc2 := 32) d_M_grow_31 rfl rfl ?_
      refine r_iload_n (pc2 := 33) d_M_grow_32 rfl rfl ?_
      refine r_iload_n (pc2 := 34) d_M_grow_33 rfl rfl ?_
      refine q_callv (M2 := mi_M_isFixed) (pc2 := 37) d_M_grow_34 rfl k_M_188 cm_M_isFixed cv_M_isFixed (sh_761 hS) (by decide) rfl rfl rfl (Nat.le_of_ble_eq_true rfl) (c_M_isFixed (I := I) (F := fN) (r := sN) hS hR (by omega) (by omega) (by omega)) (d2 := d - 1) (by omega) (Nat.le_of_eq (Nat.zero_add _)) (Nat.le_of_eq (Nat.zero_add _)) ?_
      refine q_bif_eq (tgt := 47) (pc2 := 40) d_M_grow_37 rfl rfl (fun c4 => ?_) (fun c4 => ?_)
      · refine r_iload_n (pc2 := 48) d_M_grow_47 rfl rfl ?_
        refine r_iload_n (pc2 := 49) d_M_grow_48 rfl rfl ?_
        refine r_iload_n (pc2 := 50) d_M_grow_49 rfl rfl ?_
        refine q_calls (M2 := mi_M_ruleAt) (pc2 := 53) d_M_grow_50 rfl k_M_80 cm_M_ruleAt cs_M_ruleAt rfl rfl (Nat.le_of_ble_eq_true rfl) (c_M_ruleAt (F := fN) (r := sN) (k := kN)) (d2 := d - 1) (by omega) (Nat.le_of_eq (Nat.zero_add _)) (Nat.le_of_eq (Nat.zero_add _)) ?_
        refine r_istore (pc2 := 55) d_M_grow_53 rfl (Nat.le_of_ble_eq_true rfl) ?_
        refine r_aload_n (x := some 761) (pc2 := 56) d_M_grow_55 rfl rfl ?_
        refine q_getR (x := some 762) (pc2 := 59) d_M_grow_56 rfl k_M_9 rfl (sh_761 hS) (rf_761_0 hR) ?_
        refine r_iload (pc2 := 61) d_M_grow_59 rfl rfl ?_
        refine q_iaload (q := 174 + 84 * fN + 60 + 4 * sN + kN) (x := I 762 (174 + 84 * fN + 60 + 4 * sN + kN)) (pc2 := 62) d_M_grow_61 rfl (sh_762 hS) (nI_toInt (by omega)) (by omega) rfl ?_
        refine r_istore (pc2 := 64) d_M_grow_62 rfl (Nat.le_of_ble_eq_true rfl) ?_
        refine r_aload_n (x := some 761) (pc2 := 65) d_M_grow_64 rfl rfl ?_
        refine q_getR (x := some 762) (pc2 := 68) d_M_grow_65 rfl k_M_9 rfl (sh_761 hS) (rf_761_0 hR) ?_
        refine r_iload (pc2 := 70) d_M_grow_68 rfl rfl ?_
        refine r_iconst (v := nI 0) (pc2 := 71) d_M_grow_70 rfl (by decide) ?_
        refine q_iastore (q := 174 + 84 * fN + 60 + 4 * sN + kN) (pc2 := 72) d_M_grow_71 rfl (sh_762 hS) (nI_toInt (by omega)) (by omega) (fun I5 hI5 => ?_)
        refine r_iconst (v := (-1 : Int32)) (pc2 := 73) d_M_grow_72 rfl (by decide) ?_
        refine r_istore (pc2 := 75) d_M_grow_73 rfl (Nat.le_of_ble_eq_true rfl) ?_
        refine r_iconst (v := nI 0) (pc2 := 76) d_M_grow_75 rfl (by decide) ?_
        refine r_istore (pc2 := 78) d_M_grow_76 rfl (Nat.le_of_ble_eq_true rfl) ?_
        refine Run.sub (l2 := [(0, .ref 761), (1, .int (nI fN)), (2, .int (nI sN)), (3, .int (nI kN)), (4, .int (nI nN)), (5, .int (nI (174 + 84 * fN + 60 + 4 * sN + kN))), (6, .int (I 762 (174 + 84 * fN + 60 + 4 * sN + kN))), (7, .int ((-1 : Int32))), (8, .int (nI 0))]) ⟨rfl, rfl, rfl, rfl, rfl, rfl, rfl, rfl, rfl, trivial⟩ ?_
        have hW0 : WFA (u1 (I 762) (174 + 84 * fN + 60 + 4 * sN + kN) (nI 0)) nP nF nt := WFA_one hW (by omega) (fun j hj => u1_o (by omega)) (WFF_part (hWF fN (by omega)) (by omega) (by omega) (by decide))
        have hrk0 : RK (u1 (I 762) (174 + 84 * fN + 60 + 4 * sN + kN) (nI 0)) nF rk := RK_congr hW (fun F hF w hw => u1_o (by omega)) hrk
        refine l_M_grow hS hR hT hTn hV hnt hnk hW0 hrk0 (F := fN) (r := sN) (k := kN) (n := nN) (had := I 762 (174 + 84 * fN + 60 + 4 * sN + kN)) (by omega) (by omega) (by omega) (by omega) (P := fun v => decide (nN ≤ cnt (enP (TRE I kA fA cA gA) (u1 (I 762) (174 + 84 * fN + 60 + 4 * sN + kN) (nI 0)) fN sN kN v) nP)) (fun v => rfl) (by omega) (hk := fun J6 hJ6 => ?_) _ 0 I5 rfl (setR_put FrS.rf.set hI5) (by omega) (fun j hj => absurd hj (by omega))
        have hGJ6 := hJ6.row2
        change Run _ _ _ _ _ [(0, .ref 761), (1, .int (nI fN)), (2, .int (nI sN)), (3, .int (nI kN)), (4, .int (nI nN)), (5, .int (nI (174 + 84 * fN + 60 + 4 * sN + kN))), (6, .int (I 762 (174 + 84 * fN + 60 + 4 * sN + kN))), (7, .int (vo (growB (TRE I kA fA cA gA) (I 762) nP fN sN kN nN)))] _ _ _
        refine r_aload_n (x := some 761) (pc2 := 120) d_M_grow_119 rfl rfl ?_
        refine q_getR (x := some 762) (pc2 := 123) d_M_grow_120 rfl k_M_9 rfl (sh_761 hS) (rf_761_0 hR) ?_
        refine r_iload (pc2 := 125) d_M_grow_123 rfl rfl ?_
        refine r_iload (pc2 := 127) d_M_grow_125 rfl rfl ?_
        refine q_iastore (q := 174 + 84 * fN + 60 + 4 * sN + kN) (pc2 := 128) d_M_grow_127 rfl (sh_762 hS) (nI_toInt (by omega)) (by omega) (fun I7 hI7 => ?_)
        refine r_iload (pc2 := 130) d_M_grow_128 rfl rfl ?_
        refine Run.ret (some (.int (vo (growB (TRE I kA fA cA gA) (I 762) nP fN sN kN nN)))) d_M_grow_130 ⟨_, rfl⟩ ?_
        refine RQ.val (by (try simp only [efN, b0fN, b1fN, b2fN, b3fN, b4fN, b5fN, b6fN, b8fN, b9fN, esN, t1fNsN, u1fNsN, v1fNsN, x1fNsN, ekN, enN, Int.toNat_natCast] at c1 c3 c4); (unfold o_grow); (try dsimp only); (try simp only [efN, b0fN, b1fN, b2fN, b3fN, b4fN, b5fN, b6fN, b8fN, b9fN, esN, t1fNsN, u1fNsN, v1fNsN, x1fNsN, ekN, enN, Int.toNat_natCast]); (repeat (first | rw [if_pos (by omega)] | rw [if_neg (by omega)])); (try rfl); (all_goals first | rfl | (simp only [a0fN, a1fN, a2fN, a3fN, a4fN, a5fN, a6fN, a8fN, a9fN]; done) | (congr 2; omega) | ((repeat' split) <;> first | rfl | (simp only [a0fN, a1fN, a2fN, a3fN, a4fN, a5fN, a6fN, a8fN, a9fN]; done) | (exfalso; omega) | (congr 2; omega) | skip))) ?_
        have ff := (setR_put hJ6 hI7)
        rw [u1_u1 (by first | rfl | (simp only [u0fNsN, v0fNsN, x0fNsN]; done)), setR_self] at ff; exact ff
      · refine r_aload_n (x := some 761) (pc2 := 41) d_M_grow_40 rfl rfl ?_
        refine r_bipush (v := (-35 : Int32)) (pc2 := 43) d_M_grow_41 rfl (by decide) ?_
        refine q_callv (M2 := mi_M_refused) (pc2 := 46) d_M_grow_43 rfl k_M_106 cm_M_refused cv_M_refused (sh_761 hS) (by decide) rfl rfl rfl (Nat.le_of_ble_eq_true rfl) (c_M_refused_3 (I := I) hS hR) (d2 := d - 1) (by omega) (Nat.le_of_eq (Nat.zero_add _)) (Nat.le_of_eq (Nat.zero_add _)) ?_
        obtain ⟨I8, hI8⟩ : ∃ x, x = u2 I 765 3 (I 765 3 + nI 1) := ⟨_, rfl⟩
        rw [← hI8]
        refine Run.ret (some (.int ((-35 : Int32)))) d_M_grow_46 ⟨_, rfl⟩ ?_
        exact RQ.bad 3 (by (try simp only [efN, b0fN, b1fN, b2fN, b3fN, b4fN, b5fN, b6fN, b8fN, b9fN, esN, t1fNsN, u1fNsN, v1fNsN, x1fNsN, ekN, enN, Int.toNat_natCast] at c1 c3 c4); (unfold o_grow); (try dsimp only); (try simp only [efN, b0fN, b1fN, b2fN, b3fN, b4fN, b5fN, b6fN, b8fN, b9fN, esN, t1fNsN, u1fNsN, v1fNsN, x1fNsN, ekN, enN, Int.toNat_natCast]); (repeat (first | rw [if_pos (by omega)] | rw [if_neg (by omega)])); (try rfl); (all_goals first | rfl | (simp only [a0fN, a1fN, a2fN, a3fN, a4fN, a5fN, a6fN, a8fN, a9fN]; done) | (congr 2; omega) | ((repeat' split) <;> first | rfl | (simp only [a0fN, a1fN, a2fN, a3fN, a4fN, a5fN, a6fN, a8fN, a9fN]; done) | (exfalso; omega) | (congr 2; omega) | skip)); (try rfl)) (by decide) FrS.rf hI8
    · refine r_aload_n (x := some 761) (pc2 := 25) d_M_grow_24 rfl rfl ?_
      refine r_bipush (v := (-32 : Int32)) (pc2 := 27) d_M_grow_25 rfl (by decide) ?_
      refine q_callv (M2 := mi_M_refused) (pc2 := 30) d_M_grow_27 rfl k_M_106 cm_M_refused cv_M_refused (sh_761 hS) (by decide) rfl rfl rfl (Nat.le_of_ble_eq_true rfl) (c_M_refused_0 (I := I) hS hR) (d2 := d - 1) (by omega) (Nat.le_of_eq (Nat.zero_add _)) (Nat.le_of_eq (Nat.zero_add _)) ?_
      obtain ⟨I9, hI9⟩ : ∃ x, x = u2 I 765 0 (I 765 0 + nI 1) := ⟨_, rfl⟩
      rw [← hI9]
      refine Run.ret (some (.int ((-32 : Int32)))) d_M_grow_30 ⟨_, rfl⟩ ?_
      exact RQ.bad 0 (by (try simp only [efN, b0fN, b1fN, b2fN, b3fN, b4fN, b5fN, b6fN, b8fN, b9fN, esN, t1fNsN, u1fNsN, v1fNsN, x1fNsN, ekN, Int.toNat_natCast] at c1 c3); (unfold o_grow); (try dsimp only); (try simp only [efN, b0fN, b1fN, b2fN, b3fN, b4fN, b5fN, b6fN, b8fN, b9fN, esN, t1fNsN, u1fNsN, v1fNsN, x1fNsN, ekN, Int.toNat_natCast]); (repeat (first | rw [if_pos (by omega)] | rw [if_neg (by omega)])); (try rfl); (all_goals first | rfl | (simp only [a0fN, a1fN, a2fN, a3fN, a4fN, a5fN, a6fN, a8fN, a9fN]; done) | (congr 2; omega) | ((repeat' split) <;> first | rfl | (simp only [a0fN, a1fN, a2fN, a3fN, a4fN, a5fN, a6fN, a8fN, a9fN]; done) | (exfalso; omega) | (congr 2; omega) | skip)); (try rfl)) (by decide) FrS.rf hI9
theorem l_M_moved_38 {d : Nat} {I : Nat → Nat → Int32} {R : Nat → Nat → Option Nat} {L : Nat → Nat → Int64} {sh : Nat → Nat × Nat} {N : Nat} (hS : ShOK sh) (hR : RfOK R) {kA fA cA gA nk nt : Nat} (hT : TRf R sh kA fA cA gA nk) (hTn : TNe kA fA cA gA) (hV : TV (I kA) (I fA) (I cA) nt) (hnt : nt ≤ nk) (hnk : nk ≤ 1000000) {nP nF : Nat} (hW : WFA (I 762) nP nF nt) {rk : Nat → Nat} (hrk : RK (I 762) nF rk) {F r k v : Nat} (hF : F < nF) (hd : nt + 40 ≤ d) {Q : Option Value → HS → Prop} (hk : ∀ J, FrS (setR I 762 (I 762)) J → (∀ j, j < nP → J 776 j = (AN (TRE I kA fA cA gA) (I 762) j F).1) → Run mi_M_moved d 0 0 69 [(0, .ref 761), (1, .int (nI F)), (2, .int (nI r)), (3, .int (nI k)), (4, .int (nI v))] [] (J, R, L, sh, N) Q) : ∀ (n_ : Nat) (i : Nat) (J : Nat → Nat → Int32), nP - i = n_ → (FrS (setR I 762 (I 762)) J) → (i ≤ nP) → (∀ j, j < i → J 776 j = (AN (TRE I kA fA cA gA) (I 762) j F).1) → Run mi_M_moved d 0 0 38 [(0, .ref 761), (1, .int (nI F)), (2, .int (nI r)), (3, .int (nI k)), (4, .int (nI v)), (5, .int (nI i))] [] (J, R, L, sh, N) Q := by
  intro n_
  induction n_ using Nat.strongRecOn with | ind n_ ih_ => ?_
  intro i J hn_ v0_ v1_ v2_
  have hGJ := v0_.row2
  obtain ⟨hPc, hP24, hFc, hF12, hWF, hWP⟩ := id hW
  refine r_iload (pc2 := 40) d_M_moved_38 rfl rfl ?_
  refine r_aload_n (x := some 761) (pc2 := 41) d_M_moved_40 rfl rfl ?_
  refine q_getR (x := some 762) (pc2 := 44) d_M_moved_41 rfl k_M_9 rfl (sh_761 hS) (rf_761_0 hR) ?_
  refine r_iconst (v := nI 0) (pc2 := 45) d_M_moved_44 rfl (by decide) ?_
  refine q_iaload (q := 0) (x := nI nP) (pc2 := 46) d_M_moved_45 rfl (sh_762 hS) (nI_toInt (by omega)) (by omega) ((congrFun hGJ _).trans (hPc)) ?_
  refine q_icmp_ge (tgt := 69) (A := ((i : Nat) : Int)) (B := ((nP : Nat) : Int)) (pc2 := 49) d_M_moved_46 rfl rfl (nI_toInt (by omega)) (nI_toInt (by omega)) (fun c1 => ?_) (fun c1 => ?_)
  · refine Run.sub (l2 := [(0, .ref 761), (1, .int (nI F)), (2, .int (nI r)), (3, .int (nI k)), (4, .int (nI v))]) ⟨rfl, rfl, rfl, rfl, rfl, trivial⟩ ?_
    exact hk J v0_ (fun j hj => v2_ j (by omega))
  · refine r_aload_n (x := some 761) (pc2 := 50) d_M_moved_49 rfl rfl ?_
    refine q_getR (x := some 776) (pc2 := 53) d_M_moved_50 rfl k_M_52 rfl (sh_761 hS) (rf_761_23 hR) ?_
    refine r_iload (pc2 := 55) d_M_moved_53 rfl rfl ?_
    refine r_aload_n (x := some 761) (pc2 := 56) d_M_moved_55 rfl rfl ?_
    refine r_iload_n (pc2 := 57) d_M_moved_56 rfl rfl ?_
    refine r_iload (pc2 := 59) d_M_moved_57 rfl rfl ?_
    refine r_callv (M2 := mi_M_fresh) (pc2 := 62) d_M_moved_59 rfl k_M_201 cm_M_fresh cv_M_fresh (sh_761 hS) (by decide) rfl rfl rfl (Nat.le_of_ble_eq_true rfl) (c_M_freshG hS hR hT hTn hV hnt hnk (G := (I 762)) hW hrk (p := i) (by omega) (F := F) (by omega) (J := J) v0_ (d := d - 1) (by omega)) (d2 := d - 1) (by omega) (Nat.le_of_eq (Nat.zero_add _)) (Nat.le_of_eq (Nat.zero_add _)) (fun r2 h2 hq2 => ?_)
    obtain ⟨K2, rfl, rfl, hAK2, haK2, hbK2, hcK2⟩ := hq2
    change Run _ _ _ _ _ _ [.int ((AN (TRE I kA fA cA gA) (I 762) i F).1), .int (nI i), .ref 776] _ _
    have hK2 : FrS (setR I 762 (I 762)) K2 := v0_.tr hAK2.s
    have hGK2 := hK2.row2
    refine q_iastore (q := i) (pc2 := 63) d_M_moved_62 rfl (sh_776 hS) (nI_toInt (by omega)) (by omega) (fun I3 hI3 => ?_)
    refine q_iinc (b := 1) (pc2 := 66) d_M_moved_63 rfl rfl (by decide) (Nat.le_of_ble_eq_true rfl) ?_
    refine r_goto (tgt := 38) d_M_moved_66 rfl ?_
    refine Run.sub (l2 := [(0, .ref 761), (1, .int (nI F)), (2, .int (nI r)), (3, .int (nI k)), (4, .int (nI v)), (5, .int (nI (i + 1)))]) ⟨rfl, rfl, rfl, rfl, rfl, rfl, trivial⟩ ?_
    exact ih_ (nP - (i + 1)) (by omega) (i + 1) I3 rfl ((hK2).put hI3 (by unfold scr; omega)) (by omega) (fun j hj => by
      rcases Nat.lt_or_ge j i with q | q
      · rw [rd_nk hI3 (by omega), hAK2 776 j (by decide) (by decide) (by decide) (fun e => absurd e (by decide))]; exact v2_ j q
      · rw [show j = i by omega, rd_eq hI3])
theorem l_M_moved_101 {d : Nat} {I : Nat → Nat → Int32} {R : Nat → Nat → Option Nat} {L : Nat → Nat → Int64} {sh : Nat → Nat × Nat} {N : Nat} (hS : ShOK sh) (hR : RfOK R) {kA fA cA gA nk nt : Nat} (hT : TRf R sh kA fA cA gA nk) (hTn : TNe kA fA cA gA) (hV : TV (I kA) (I fA) (I cA) nt) (hnt : nt ≤ nk) (hnk : nk ≤ 1000000) {nP nF : Nat} {G : Nat → Int32} (hW : WFA G nP nF nt) {rk : Nat → Nat} (hrk : RK G nF rk) {G0 : Nat → Int32} {F r k v : Nat} {had : Int32} (hF : F < nF) {P : Nat → Bool} (hP : ∀ p, P p = decide ((AN (TRE I kA fA cA gA) G p F).1.toInt ≠ (AN (TRE I kA fA cA gA) G0 p F).1.toInt)) (hd : nt + 40 ≤ d) {Q : Option Value → HS → Prop} (hk : ∀ J, FrS (setR I 762 G) J → Run mi_M_moved d 0 0 148 [(0, .ref 761), (5, .int (nI (174 + 84 * F + 60 + 4 * r + k))), (6, .int had), (7, .int (bits P nP))] [] (J, R, L, sh, N) Q) : ∀ (n_ : Nat) (i : Nat) (J : Nat → Nat → Int32), nP - i = n_ → (FrS (setR I 762 G) J) → (i ≤ nP) → (∀ j, j < nP → J 776 j = (AN (TRE I kA fA cA gA) G0 j F).1) → Run mi_M_moved d 0 0 101 [(0, .ref 761), (1, .int (nI F)), (5, .int (nI (174 + 84 * F + 60 + 4 * r + k))), (6, .int had), (7, .int (bits P i)), (8, .int (nI i))] [] (J, R, L, sh, N) Q := by
  intro n_
  induction n_ using Nat.strongRecOn with | ind n_ ih_ => ?_
  intro i J hn_ v0_ v1_ v2_
  have hGJ := v0_.row2
  obtain ⟨hPc, hP24, hFc, hF12, hWF, hWP⟩ := id hW
  refine r_iload (pc2 := 103) d_M_moved_101 rfl rfl ?_
  refine r_aload_n (x := some 761) (pc2 := 104) d_M_moved_103 rfl rfl ?_
  refine q_getR (x := some 762) (pc2 := 107) d_M_moved_104 rfl k_M_9 rfl (sh_761 hS) (rf_761_0 hR) ?_
  refine r_iconst (v := nI 0) (pc2 := 108) d_M_moved_107 rfl (by decide) ?_
  refine q_iaload (q := 0) (x := nI nP) (pc2 := 109) d_M_moved_108 rfl (sh_762 hS) (nI_toInt (by omega)) (by omega) ((congrFun hGJ _).trans (hPc)) ?_
  refine q_icmp_ge (tgt := 148) (A := ((i : Nat) : Int)) (B := ((nP : Nat) : Int)) (pc2 := 112) d_M_moved_109 rfl rfl (nI_toInt (by omega)) (nI_toInt (by omega)) (fun c1 => ?_) (fun c1 => ?_)
  · refine Run.sub (l2 := [(0, .ref 761), (5, .int (nI (174 + 84 * F + 60 + 4 * r + k))), (6, .int had), (7, .int (bits P i))]) ⟨rfl, rfl, rfl, rfl, trivial⟩ ?_
    rw [show i = nP by omega]; exact hk J v0_
  · refine r_iload (pc2 := 114) d_M_moved_112 rfl rfl ?_
    refine r_aload_n (x := some 761) (pc2 := 115) d_M_moved_114 rfl rfl ?_
    refine r_iload_n (pc2 := 116) d_M_moved_115 rfl rfl ?_
    refine r_iload (pc2 := 118) d_M_moved_116 rfl rfl ?_
    refine r_callv (M2 := mi_M_fresh) (pc2 := 121) d_M_moved_118 rfl k_M_201 cm_M_fresh cv_M_fresh (sh_761 hS) (by decide) rfl rfl rfl (Nat.le_of_ble_eq_true rfl) (c_M_freshG hS hR hT hTn hV hnt hnk (G := G) hW hrk (p := i) (by omega) (F := F) (by omega) (J := J) v0_ (d := d - 1) (by omega)) (d2 := d - 1) (by omega) (Nat.le_of_eq (Nat.zero_add _)) (Nat.le_of_eq (Nat.zero_add _)) (fun r2 h2 hq2 => ?_)
    obtain ⟨K2, rfl, rfl, hAK2, haK2, hbK2, hcK2⟩ := hq2
    change Run _ _ _ _ _ _ [.int ((AN (TRE I kA fA cA gA) G i F).1), .int (bits P i)] _ _
    have hK2 : FrS (setR I 762 G) K2 := v0_.tr hAK2.s
    have hGK2 := hK2.row2
    have h776 : K2 776 i = (AN (TRE I kA fA cA gA) G0 i F).1 := (hAK2 776 i (by decide) (by decide) (by decide) (fun e => absurd e (by decide))).trans (v2_ i (by omega))
    refine r_aload_n (x := some 761) (pc2 := 122) d_M_moved_121 rfl rfl ?_
    refine q_getR (x := some 776) (pc2 := 125) d_M_moved_122 rfl k_M_52 rfl (sh_761 hS) (rf_761_23 hR) ?_
    refine r_iload (pc2 := 127) d_M_moved_125 rfl rfl ?_
    refine q_iaload (q := i) (x := (AN (TRE I kA fA cA gA) G0 i F).1) (pc2 := 128) d_M_moved_127 rfl (sh_776 hS) (nI_toInt (by omega)) (by omega) h776 ?_
    refine q_icmp_eq (tgt := 138) (A := ((AN (TRE I kA fA cA gA) G i F).1).toInt) (B := ((AN (TRE I kA fA cA gA) G0 i F).1).toInt) (pc2 := 131) d_M_moved_128 rfl rfl (rfl) (rfl) (fun c3 => ?_) (fun c3 => ?_)
    · refine r_iconst (v := nI 0) (pc2 := 139) d_M_moved_138 rfl (by decide) ?_
      refine r_ior (pc2 := 140) d_M_moved_139 rfl ?_
      refine q_top (y := bits P (i + 1)) (by rw [or_0]; rw [bits_s, if_neg (by rw [hP]; simp only [decide_eq_true_eq]; omega)]) ?_
      refine r_istore (pc2 := 142) d_M_moved_140 rfl (Nat.le_of_ble_eq_true rfl) ?_
      refine q_iinc (b := 1) (pc2 := 145) d_M_moved_142 rfl rfl (by decide) (Nat.le_of_ble_eq_true rfl) ?_
      refine r_goto (tgt := 101) d_M_moved_145 rfl ?_
      refine Run.sub (l2 := [(0, .ref 761), (1, .int (nI F)), (5, .int (nI (174 + 84 * F + 60 + 4 * r + k))), (6, .int had), (7, .int (bits P (i + 1))), (8, .int (nI (i + 1)))]) ⟨rfl, rfl, rfl, rfl, rfl, rfl, trivial⟩ ?_
      exact ih_ (nP - (i + 1)) (by omega) (i + 1) K2 rfl (hK2) (by omega) (fun j hj => by
        rw [hAK2 776 j (by decide) (by decide) (by decide) (fun e => absurd e (by decide))]; exact v2_ j hj)
    · refine r_iconst (v := nI 1) (pc2 := 132) d_M_moved_131 rfl (by decide) ?_
      refine r_iload (pc2 := 134) d_M_moved_132 rfl rfl ?_
      refine r_ishl (pc2 := 135) d_M_moved_134 rfl ?_
      refine r_goto (tgt := 139) d_M_moved_135 rfl ?_
      refine r_ior (pc2 := 140) d_M_moved_139 rfl ?_
      refine q_top (y := bits P (i + 1)) (by rw [bits_s, if_pos (by rw [hP]; simp only [decide_eq_true_eq]; omega)]) ?_
      refine r_istore (pc2 := 142) d_M_moved_140 rfl (Nat.le_of_ble_eq_true rfl) ?_
      refine q_iinc (b := 1) (pc2 := 145) d_M_moved_142 rfl rfl (by decide) (Nat.le_of_ble_eq_true rfl) ?_
      refine r_goto (tgt := 101) d_M_moved_145 rfl ?_
      refine Run.sub (l2 := [(0, .ref 761), (1, .int (nI F)), (5, .int (nI (174 + 84 * F + 60 + 4 * r + k))), (6, .int had), (7, .int (bits P (i + 1))), (8, .int (nI (i + 1)))]) ⟨rfl, rfl, rfl, rfl, rfl, rfl, trivial⟩ ?_
      exact ih_ (nP - (i + 1)) (by omega) (i + 1) K2 rfl (hK2) (by omega) (fun j hj => by
        rw [hAK2 776 j (by decide) (by decide) (by decide) (fun e => absurd e (by decide))]; exact v2_ j hj)
theorem c_M_moved {d : Nat} {I : Nat → Nat → Int32} {R : Nat → Nat → Option Nat} {L : Nat → Nat → Int64} {sh : Nat → Nat × Nat} {N : Nat} (hS : ShOK sh) (hR : RfOK R) {kA fA cA gA nk nt : Nat} (hT : TRf R sh kA fA cA gA nk) (hTn : TNe kA fA cA gA) (hV : TV (I kA) (I fA) (I cA) nt) (hnt : nt ≤ nk) (hnk : nk ≤ 1000000) {nP nF : Nat} (hW : WFA (I 762) nP nF nt) {rk : Nat → Nat} (hrk : RK (I 762) nF rk) {f : Int32} {s : Int32} {k : Int32} {v : Int32} (hd : nt + 60 ≤ d) : Mt mi_M_moved d 0 0 [.ref 761, .int f, .int s, .int k, .int v] (I, R, L, sh, N) (RQ I R L sh N (o_moved (TRE I kA fA cA gA) (I 762) nP nF f s k v)) := by
  obtain ⟨hPc, hP24, hFc, hF12, hWF, hWP⟩ := id hW
  obtain ⟨hn1, hn2, hn3, hn4⟩ := id hTn
  refine Mt.of pn_M (Nat.le_of_ble_eq_true rfl) ?_
  show Run mi_M_moved d 0 0 0 [(0, .ref 761), (1, .int f), (2, .int s), (3, .int k), (4, .int v)] [] (I, R, L, sh, N) _
  refine r_aload_n (x := some 761) (pc2 := 1) d_M_moved_0 rfl rfl ?_
  refine r_iload_n (pc2 := 2) d_M_moved_1 rfl rfl ?_
  refine r_iload_n (pc2 := 3) d_M_moved_2 rfl rfl ?_
  refine r_iload_n (pc2 := 4) d_M_moved_3 rfl rfl ?_
  refine r_iload (pc2 := 6) d_M_moved_4 rfl rfl ?_
  refine q_callv (M2 := mi_M_isPart) (pc2 := 9) d_M_moved_6 rfl k_M_228 cm_M_isPart cv_M_isPart (sh_761 hS) (by decide) rfl rfl rfl (Nat.le_of_ble_eq_true rfl) (c_M_isPart (f := f) (s := s) (k := k) (q := v) hS hR hT hTn hV hnt hnk hW (by omega)) (d2 := d - 1) (by omega) (Nat.le_of_eq (Nat.zero_add _)) (Nat.le_of_eq (Nat.zero_add _)) ?_
  refine q_bif_ne (tgt := 19) (pc2 := 12) d_M_moved_9 rfl rfl (fun c1 => ?_) (fun c1 => ?_)
  · obtain ⟨q1c1, q2c1, q3c1⟩ := id c1
    obtain ⟨fN, hfN, rfl, efN⟩ := nat_of q1c1.1
    obtain ⟨tpfN, klfN, skfN, fbfN, nRfN, nNfN, nOfN, frfN, tofN, ⟨a0fN, b0fN, cc0fN, dd0fN⟩, ⟨a1fN, b1fN, cc1fN, dd1fN⟩, ⟨a2fN, b2fN, cc2fN, dd2fN⟩, ⟨a3fN, b3fN, cc3fN, dd3fN⟩, ⟨a4fN, b4fN, cc4fN, dd4fN⟩, ⟨a5fN, b5fN, cc5fN, dd5fN⟩, ⟨a6fN, b6fN, cc6fN, dd6fN⟩, ⟨a8fN, b8fN, cc8fN, dd8fN⟩, ⟨a9fN, b9fN, cc9fN, dd9fN⟩⟩ := wfn (hWF fN hfN)
    obtain ⟨-, -, -, -, -, -, -, w7fN, -, -, wNfN, wRfN, wKfN, wOfN⟩ := hWF fN hfN
    simp only [efN, Int.toNat_natCast, b4fN] at q1c1
    obtain ⟨sN, hsN, rfl, esN⟩ := nat_of q1c1.2
    obtain ⟨rtfNsN, rafNsN, rbfNsN, rcfNsN, ⟨t0fNsN, t1fNsN, t2fNsN⟩, ⟨u0fNsN, u1fNsN, u2fNsN⟩, ⟨v0fNsN, v1fNsN, v2fNsN⟩, ⟨x0fNsN, x1fNsN, x2fNsN⟩⟩ := wrn (wRfN sN (by omega))
    simp only [efN, Int.toNat_natCast, b0fN] at q2c1
    obtain ⟨kN, hkN, gkN, rfl, ekN⟩ := nat_of' (show (0 : Int) ≤ 1 by decide) q2c1
    obtain ⟨vN, hvN, gvN, rfl, evN⟩ := nat_of' (Int.le_refl 0) q3c1
    refine r_aload_n (x := some 761) (pc2 := 20) d_M_moved_19 rfl rfl ?_
    refine r_iload_n (pc2 := 21) d_M_moved_20 rfl rfl ?_
    refine r_iload_n (pc2 := 22) d_M_moved_21 rfl rfl ?_
    refine q_callv (M2 := mi_M_isFixed) (pc2 := 25) d_M_moved_22 rfl k_M_188 cm_M_isFixed cv_M_isFixed (sh_761 hS) (by decide) rfl rfl rfl (Nat.le_of_ble_eq_true rfl) (c_M_isFixed (I := I) (F := fN) (r := sN) hS hR (by omega) (by omega) (by omega)) (d2 := d - 1) (by omega) (Nat.le_of_eq (Nat.zero_add _)) (Nat.le_of_eq (Nat.zero_add _)) ?_
    refine q_bif_eq (tgt := 35) (pc2 := 28) d_M_moved_25 rfl rfl (fun c2 => ?_) (fun c2 => ?_)
    · refine r_iconst (v := nI 0) (pc2 := 36) d_M_moved_35 rfl (by decide) ?_
      refine r_istore (pc2 := 38) d_M_moved_36 rfl (Nat.le_of_ble_eq_true rfl) ?_
      refine Run.sub (l2 := [(0, .ref 761), (1, .int (nI fN)), (2, .int (nI sN)), (3, .int (nI kN)), (4, .int (nI vN)), (5, .int (nI 0))]) ⟨rfl, rfl, rfl, rfl, rfl, rfl, trivial⟩ ?_
      refine l_M_moved_38 hS hR hT hTn hV hnt hnk hW hrk (F := fN) (r := sN) (k := kN) (v := vN) (by omega) (by omega) (hk := fun J3 hJ3 h776 => ?_) _ 0 I rfl FrS.rf.set (by omega) (fun j hj => absurd hj (by omega))
      have hGJ3 := hJ3.row2
      refine r_iload_n (pc2 := 70) d_M_moved_69 rfl rfl ?_
      refine r_iload_n (pc2 := 71) d_M_moved_70 rfl rfl ?_
      refine r_iload_n (pc2 := 72) d_M_moved_71 rfl rfl ?_
      refine q_calls (M2 := mi_M_ruleAt) (pc2 := 75) d_M_moved_72 rfl k_M_80 cm_M_ruleAt cs_M_ruleAt rfl rfl (Nat.le_of_ble_eq_true rfl) (c_M_ruleAt (F := fN) (r := sN) (k := kN)) (d2 := d - 1) (by omega) (Nat.le_of_eq (Nat.zero_add _)) (Nat.le_of_eq (Nat.zero_add _)) ?_
      refine r_istore (pc2 := 77) d_M_moved_75 rfl (Nat.le_of_ble_eq_true rfl) ?_
      refine r_aload_n (x := some 761) (pc2 := 78) d_M_moved_77 rfl rfl ?_
      refine q_getR (x := some 762) (pc2 := 81) d_M_moved_78 rfl k_M_9 rfl (sh_761 hS) (rf_761_0 hR) ?_
      refine r_iload (pc2 := 83) d_M_moved_81 rfl rfl ?_
      refine q_iaload (q := 174 + 84 * fN + 60 + 4 * sN + kN) (x := (I 762) (174 + 84 * fN + 60 + 4 * sN + kN)) (pc2 := 84) d_M_moved_83 rfl (sh_762 hS) (nI_toInt (by omega)) (by omega) (congrFun hGJ3 _) ?_
      refine r_istore (pc2 := 86) d_M_moved_84 rfl (Nat.le_of_ble_eq_true rfl) ?_
      refine r_aload_n (x := some 761) (pc2 := 87) d_M_moved_86 rfl rfl ?_
      refine q_getR (x := some 762) (pc2 := 90) d_M_moved_87 rfl k_M_9 rfl (sh_761 hS) (rf_761_0 hR) ?_
      refine r_iload (pc2 := 92) d_M_moved_90 rfl rfl ?_
      refine r_iload (pc2 := 94) d_M_moved_92 rfl rfl ?_
      refine q_iastore (q := 174 + 84 * fN + 60 + 4 * sN + kN) (pc2 := 95) d_M_moved_94 rfl (sh_762 hS) (nI_toInt (by omega)) (by omega) (fun I4 hI4 => ?_)
      refine r_iconst (v := nI 0) (pc2 := 96) d_M_moved_95 rfl (by decide) ?_
      refine r_istore (pc2 := 98) d_M_moved_96 rfl (Nat.le_of_ble_eq_true rfl) ?_
      refine r_iconst (v := nI 0) (pc2 := 99) d_M_moved_98 rfl (by decide) ?_
      refine r_istore (pc2 := 101) d_M_moved_99 rfl (Nat.le_of_ble_eq_true rfl) ?_
      have hW0 : WFA (u1 (I 762) (174 + 84 * fN + 60 + 4 * sN + kN) (nI vN)) nP nF nt := WFA_one hW (by omega) (fun j hj => u1_o (by omega)) (WFF_part (hWF fN (by omega)) (by omega) (by omega) (by omega))
      have hrk0 : RK (u1 (I 762) (174 + 84 * fN + 60 + 4 * sN + kN) (nI vN)) nF rk := RK_congr hW (fun F hF w hw => u1_o (by omega)) hrk
      refine Run.sub (l2 := [(0, .ref 761), (1, .int (nI fN)), (5, .int (nI (174 + 84 * fN + 60 + 4 * sN + kN))), (6, .int ((I 762) (174 + 84 * fN + 60 + 4 * sN + kN))), (7, .int (nI 0)), (8, .int (nI 0))]) ⟨rfl, rfl, rfl, rfl, rfl, rfl, trivial⟩ ?_
      refine l_M_moved_101 hS hR hT hTn hV hnt hnk hW0 hrk0 (G0 := I 762) (F := fN) (r := sN) (k := kN) (v := vN) (had := (I 762) (174 + 84 * fN + 60 + 4 * sN + kN)) (by omega) (P := fun p => decide ((AN (TRE I kA fA cA gA) (u1 (I 762) (174 + 84 * fN + 60 + 4 * sN + kN) (nI vN)) p fN).1.toInt ≠ (AN (TRE I kA fA cA gA) (I 762) p fN).1.toInt)) (fun p => rfl) (by omega) (hk := fun J9 hJ9 => ?_) _ 0 I4 rfl (setR_put hJ3 hI4) (by omega) (fun j hj => by rw [rd_ne hI4 (by decide)]; exact h776 j hj)
      have hGJ9 := hJ9.row2
      refine r_aload_n (x := some 761) (pc2 := 149) d_M_moved_148 rfl rfl ?_
      refine q_getR (x := some 762) (pc2 := 152) d_M_moved_149 rfl k_M_9 rfl (sh_761 hS) (rf_761_0 hR) ?_
      refine r_iload (pc2 := 154) d_M_moved_152 rfl rfl ?_
      refine r_iload (pc2 := 156) d_M_moved_154 rfl rfl ?_
      refine q_iastore (q := 174 + 84 * fN + 60 + 4 * sN + kN) (pc2 := 157) d_M_moved_156 rfl (sh_762 hS) (nI_toInt (by omega)) (by omega) (fun I5 hI5 => ?_)
      refine r_iload (pc2 := 159) d_M_moved_157 rfl rfl ?_
      refine Run.ret (some (.int (bits (fun p => decide ((AN (TRE I kA fA cA gA) (u1 (I 762) (174 + 84 * fN + 60 + 4 * sN + kN) (nI vN)) p fN).1.toInt ≠ (AN (TRE I kA fA cA gA) (I 762) p fN).1.toInt)) nP))) d_M_moved_159 ⟨_, rfl⟩ ?_
      refine RQ.val (by (try simp only [efN, b0fN, b1fN, b2fN, b3fN, b4fN, b5fN, b6fN, b8fN, b9fN, esN, t1fNsN, u1fNsN, v1fNsN, x1fNsN, ekN, evN, Int.toNat_natCast] at c1 c2); (unfold o_moved); (try dsimp only); (try simp only [efN, b0fN, b1fN, b2fN, b3fN, b4fN, b5fN, b6fN, b8fN, b9fN, esN, t1fNsN, u1fNsN, v1fNsN, x1fNsN, ekN, evN, Int.toNat_natCast]); (repeat (first | rw [if_pos (by omega)] | rw [if_neg (by omega)])); (try rfl); (all_goals first | rfl | (simp only [a0fN, a1fN, a2fN, a3fN, a4fN, a5fN, a6fN, a8fN, a9fN]; done) | (congr 2; omega) | ((repeat' split) <;> first | rfl | (simp only [a0fN, a1fN, a2fN, a3fN, a4fN, a5fN, a6fN, a8fN, a9fN]; done) | (exfalso; omega) | (congr 2; omega) | skip))) ?_
      have ff := (setR_put hJ9 hI5)
      rw [u1_u1 (by first | rfl | (simp only [u0fNsN, v0fNsN, x0fNsN]; done)), setR_self] at ff; exact ff
    · refine r_aload_n (x := some 761) (pc2 := 29) d_M_moved_28 rfl rfl ?_
      refine r_bipush (v := (-35 : Int32)) (pc2 := 31) d_M_moved_29 rfl (by decide) ?_
      refine q_callv (M2 := mi_M_refused) (pc2 := 34) d_M_moved_31 rfl k_M_106 cm_M_refused cv_M_refused (sh_761 hS) (by decide) rfl rfl rfl (Nat.le_of_ble_eq_true rfl) (c_M_refused_3 (I := I) hS hR) (d2 := d - 1) (by omega) (Nat.le_of_eq (Nat.zero_add _)) (Nat.le_of_eq (Nat.zero_add _)) ?_
      obtain ⟨I6, hI6⟩ : ∃ x, x = u2 I 765 3 (I 765 3 + nI 1) := ⟨_, rfl⟩
      rw [← hI6]
      refine Run.ret (some (.int ((-35 : Int32)))) d_M_moved_34 ⟨_, rfl⟩ ?_
      exact RQ.bad 3 (by (try simp only [efN, b0fN, b1fN, b2fN, b3fN, b4fN, b5fN, b6fN, b8fN, b9fN, esN, t1fNsN, u1fNsN, v1fNsN, x1fNsN, ekN, evN, Int.toNat_natCast] at c1 c2); (unfold o_moved); (try dsimp only); (try simp only [efN, b0fN, b1fN, b2fN, b3fN, b4fN, b5fN, b6fN, b8fN, b9fN, esN, t1fNsN, u1fNsN, v1fNsN, x1fNsN, ekN, evN, Int.toNat_natCast]); (repeat (first | rw [if_pos (by omega)] | rw [if_neg (by omega)])); (try rfl); (all_goals first | rfl | (simp only [a0fN, a1fN, a2fN, a3fN, a4fN, a5fN, a6fN, a8fN, a9fN]; done) | (congr 2; omega) | ((repeat' split) <;> first | rfl | (simp only [a0fN, a1fN, a2fN, a3fN, a4fN, a5fN, a6fN, a8fN, a9fN]; done) | (exfalso; omega) | (congr 2; omega) | skip)); (try rfl)) (by decide) FrS.rf hI6
  · refine r_aload_n (x := some 761) (pc2 := 13) d_M_moved_12 rfl rfl ?_
    refine r_bipush (v := (-32 : Int32)) (pc2 := 15) d_M_moved_13 rfl (by decide) ?_
    refine q_callv (M2 := mi_M_refused) (pc2 := 18) d_M_moved_15 rfl k_M_106 cm_M_refused cv_M_refused (sh_761 hS) (by decide) rfl rfl rfl (Nat.le_of_ble_eq_true rfl) (c_M_refused_0 (I := I) hS hR) (d2 := d - 1) (by omega) (Nat.le_of_eq (Nat.zero_add _)) (Nat.le_of_eq (Nat.zero_add _)) ?_
    obtain ⟨I7, hI7⟩ : ∃ x, x = u2 I 765 0 (I 765 0 + nI 1) := ⟨_, rfl⟩
    rw [← hI7]
    refine Run.ret (some (.int ((-32 : Int32)))) d_M_moved_18 ⟨_, rfl⟩ ?_
    exact RQ.bad 0 (by (unfold o_moved); (try dsimp only); (try simp only [Int.toNat_natCast]); (repeat (first | rw [if_pos (by omega)] | rw [if_neg (by omega)])); (try rfl); (all_goals first | rfl | (congr 2; omega) | ((repeat' split) <;> first | rfl | (exfalso; omega) | (congr 2; omega) | skip)); (try rfl)) (by decide) FrS.rf hI7
