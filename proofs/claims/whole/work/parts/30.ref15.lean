/-! THE REFERENCE: calls that change the row g -/
/-! rows that change -/
def shf (G : Nat → Int32) (a b s : Nat) : Nat → Int32 := fun j => if a ≤ j ∧ j < b then G (j + s) else G j
theorem shf_0 {G : Nat → Int32} {a s : Nat} : shf G a a s = G := by
  funext j; unfold shf; rw [if_neg (by omega)]
theorem shf_o {G : Nat → Int32} {a b s q : Nat} (h : b ≤ q ∨ q < a) : shf G a b s q = G q := by unfold shf; rw [if_neg (by omega)]
theorem shf_s {G : Nat → Int32} {a k s q b2 : Nat} (h : a ≤ k) (hq : q = k + s) (hb : b2 = k + 1) : u1 (shf G a k s) k (G q) = shf G a b2 s := by
  subst hq; subst hb; funext j
  unfold u1 shf
  by_cases e : j = k
  · subst e; rw [if_pos rfl, if_pos (by omega)]
  · rw [if_neg e]
    by_cases e2 : a ≤ j ∧ j < k
    · rw [if_pos e2, if_pos (by omega)]
    · rw [if_neg e2, if_neg (by omega)]
theorem setR_shf {I J K : Nat → Nat → Int32} {G : Nat → Int32} {a k s q b2 : Nat} {v : Int32} (h : FrS (setR I 762 (shf G a k s)) J) (e : K = u2 J 762 k v) (hv : v = G q) (ha : a ≤ k) (hq : q = k + s) (hb : b2 = k + 1) : FrS (setR I 762 (shf G a b2 s)) K := by
  rw [← shf_s ha hq hb, ← hv]; exact setR_put h e
def fil (G : Nat → Int32) (a b : Nat) (v : Int32) : Nat → Int32 := fun j => if a ≤ j ∧ j < b then v else G j
theorem fil_0 {G : Nat → Int32} {a : Nat} {v : Int32} : fil G a a v = G := by
  funext j; unfold fil; rw [if_neg (by omega)]
theorem fil_o {G : Nat → Int32} {a b q : Nat} {v : Int32} (h : b ≤ q ∨ q < a) : fil G a b v q = G q := by unfold fil; rw [if_neg (by omega)]
theorem fil_s {G : Nat → Int32} {a k b2 : Nat} {v : Int32} (h : a ≤ k) (hb : b2 = k + 1) : u1 (fil G a k v) k v = fil G a b2 v := by
  subst hb; funext j
  unfold u1 fil
  by_cases e : j = k
  · subst e; rw [if_pos rfl, if_pos (by omega)]
  · rw [if_neg e]
    by_cases e2 : a ≤ j ∧ j < k
    · rw [if_pos e2, if_pos (by omega)]
    · rw [if_neg e2, if_neg (by omega)]
theorem setR_fil {I J K : Nat → Nat → Int32} {G : Nat → Int32} {a k b2 : Nat} {v : Int32} (h : FrS (setR I 762 (fil G a k v)) J) (e : K = u2 J 762 k v) (ha : a ≤ k) (hb : b2 = k + 1) : FrS (setR I 762 (fil G a b2 v)) K := by
  rw [← fil_s ha hb]; exact setR_put h e
theorem u1_o {G : Nat → Int32} {i j : Nat} {v : Int32} (h : j ≠ i) : u1 G i v j = G j := if_neg h
theorem u1_i {G : Nat → Int32} {i : Nat} {v : Int32} : u1 G i v i = v := if_pos rfl
/-- the numbers of a feature, of a rule -/
theorem wfn {G : Nat → Int32} {nF nt F : Nat} (h : WFF G nF nt F) : ∃ tp kl sk fb nR nN nO fr to : Nat,
    (G (174 + 84 * F + 0) = nI tp ∧ (G (174 + 84 * F + 0)).toInt = (tp : Int) ∧ 1 ≤ tp ∧ tp ≤ 3) ∧ (G (174 + 84 * F + 1) = nI kl ∧ (G (174 + 84 * F + 1)).toInt = (kl : Int) ∧ kl ≤ 1 ∧ True) ∧ (G (174 + 84 * F + 2) = nI sk ∧ (G (174 + 84 * F + 2)).toInt = (sk : Int) ∧ sk ≤ 1 ∧ True) ∧
    (G (174 + 84 * F + 3) = nI fb ∧ (G (174 + 84 * F + 3)).toInt = (fb : Int) ∧ fb ≤ 3 ∧ True) ∧ (G (174 + 84 * F + 4) = nI nR ∧ (G (174 + 84 * F + 4)).toInt = (nR : Int) ∧ nR ≤ 6 ∧ True) ∧ (G (174 + 84 * F + 5) = nI nN ∧ (G (174 + 84 * F + 5)).toInt = (nN : Int) ∧ nN ≤ 3 ∧ True) ∧
    (G (174 + 84 * F + 6) = nI nO ∧ (G (174 + 84 * F + 6)).toInt = (nO : Int) ∧ nO ≤ 8 ∧ True) ∧ (G (174 + 84 * F + 8) = nI fr ∧ (G (174 + 84 * F + 8)).toInt = (fr : Int) ∧ fr ≤ 999 ∧ True) ∧ (G (174 + 84 * F + 9) = nI to ∧ (G (174 + 84 * F + 9)).toInt = (to : Int) ∧ to ≤ 999 ∧ True) := by
  obtain ⟨w0, w1, w2, w3, w4, w5, w6, w7, w8, w9, -⟩ := h
  exact ⟨_, _, _, _, _, _, _, _, _, ⟨eq_nI (Int.toNat_of_nonneg (by omega)).symm, (Int.toNat_of_nonneg (by omega)).symm, by omega, by omega⟩, ⟨eq_nI (Int.toNat_of_nonneg (by omega)).symm, (Int.toNat_of_nonneg (by omega)).symm, by omega, trivial⟩, ⟨eq_nI (Int.toNat_of_nonneg (by omega)).symm, (Int.toNat_of_nonneg (by omega)).symm, by omega, trivial⟩, ⟨eq_nI (Int.toNat_of_nonneg (by omega)).symm, (Int.toNat_of_nonneg (by omega)).symm, by omega, trivial⟩, ⟨eq_nI (Int.toNat_of_nonneg (by omega)).symm, (Int.toNat_of_nonneg (by omega)).symm, by omega, trivial⟩, ⟨eq_nI (Int.toNat_of_nonneg (by omega)).symm, (Int.toNat_of_nonneg (by omega)).symm, by omega, trivial⟩, ⟨eq_nI (Int.toNat_of_nonneg (by omega)).symm, (Int.toNat_of_nonneg (by omega)).symm, by omega, trivial⟩, ⟨eq_nI (Int.toNat_of_nonneg (by omega)).symm, (Int.toNat_of_nonneg (by omega)).symm, by omega, trivial⟩, ⟨eq_nI (Int.toNat_of_nonneg (by omega)).symm, (Int.toNat_of_nonneg (by omega)).symm, by omega, trivial⟩⟩
theorem wrn {nt : Nat} {x0 x1 x2 x3 : Int32} (h : (0 ≤ x0.toInt ∧ x0.toInt < nt) ∧ ((1000 ≤ x1.toInt ∧ x1.toInt ≤ 1003) ∨ (0 ≤ x1.toInt ∧ x1.toInt ≤ 333)) ∧ (0 ≤ x2.toInt ∧ x2.toInt ≤ 333) ∧ (0 ≤ x3.toInt ∧ x3.toInt ≤ 333)) :
    ∃ t a b c : Nat, (x0 = nI t ∧ x0.toInt = (t : Int) ∧ t < nt) ∧ (x1 = nI a ∧ x1.toInt = (a : Int) ∧ ((1000 ≤ a ∧ a ≤ 1003) ∨ a ≤ 333)) ∧ (x2 = nI b ∧ x2.toInt = (b : Int) ∧ b ≤ 333) ∧ (x3 = nI c ∧ x3.toInt = (c : Int) ∧ c ≤ 333) := by
  obtain ⟨h0, h1, h2, h3⟩ := h
  exact ⟨_, _, _, _, ⟨eq_nI (Int.toNat_of_nonneg (by omega)).symm, (Int.toNat_of_nonneg (by omega)).symm, by omega⟩, ⟨eq_nI (Int.toNat_of_nonneg (by omega)).symm, (Int.toNat_of_nonneg (by omega)).symm, by omega⟩, ⟨eq_nI (Int.toNat_of_nonneg (by omega)).symm, (Int.toNat_of_nonneg (by omega)).symm, by omega⟩, ⟨eq_nI (Int.toNat_of_nonneg (by omega)).symm, (Int.toNat_of_nonneg (by omega)).symm, by omega⟩⟩
/-! what the calls answer, and the row g behind them -/
abbrev isF (nF : Nat) (f : Int32) : Prop := 0 ≤ f.toInt ∧ f.toInt < (nF : Int)
def nRof (G : Nat → Int32) (F : Nat) : Nat := (G (174 + 84 * F + 4)).toInt.toNat
def nNof (G : Nat → Int32) (F : Nat) : Nat := (G (174 + 84 * F + 5)).toInt.toNat
def nOof (G : Nat → Int32) (F : Nat) : Nat := (G (174 + 84 * F + 6)).toInt.toNat
def o_feature (nF : Nat) (n : Int32) : Out := if 1 ≤ n.toInt ∧ n.toInt ≤ 3 then (if (nF : Int) = 12 then .inr 4 else .inl (nI nF)) else .inr 0
def g_feature (G : Nat → Int32) (nF : Nat) (n : Int32) : Nat → Int32 := if 1 ≤ n.toInt ∧ n.toInt ≤ 3 then (if (nF : Int) = 12 then G else u1 (u1 (u1 (fil G (174 + 84 * nF + 0) (174 + 84 * nF + 84) (nI 0)) (174 + 84 * nF + 0) n) (174 + 84 * nF + 7) (-1)) 1 (nI (nF + 1))) else G
def o_tell (G : Nat → Int32) (nF : Nat) (f k v : Int32) : Out := if ((0 ≤ f.toInt ∧ f.toInt < (nF : Int)) ∧ 0 ≤ k.toInt ∧ k.toInt ≤ 2) then
    (if (k.toInt = 2 ∧ 0 ≤ v.toInt ∧ v.toInt ≤ (G (174 + 84 * f.toInt.toNat + 0)).toInt) ∨ (k.toInt ≠ 2 ∧ 0 ≤ v.toInt ∧ v.toInt ≤ 1) then .inl (G (174 + 84 * f.toInt.toNat + (1 + k.toInt.toNat))) else .inr 0) else .inr 0
def g_tell (G : Nat → Int32) (nF : Nat) (f k v : Int32) : Nat → Int32 := if ((0 ≤ f.toInt ∧ f.toInt < (nF : Int)) ∧ 0 ≤ k.toInt ∧ k.toInt ≤ 2) then
    (if (k.toInt = 2 ∧ 0 ≤ v.toInt ∧ v.toInt ≤ (G (174 + 84 * f.toInt.toNat + 0)).toInt) ∨ (k.toInt ≠ 2 ∧ 0 ≤ v.toInt ∧ v.toInt ≤ 1) then u1 G (174 + 84 * f.toInt.toNat + (1 + k.toInt.toNat)) v else G) else G
def o_drop (G : Nat → Int32) (nF : Nat) (f s : Int32) : Out := if (0 ≤ f.toInt ∧ f.toInt < (nF : Int)) then (if 0 ≤ s.toInt ∧ s.toInt < (G (174 + 84 * f.toInt.toNat + 4)).toInt then .inl (nI ((G (174 + 84 * f.toInt.toNat + 4)).toInt.toNat - 1)) else .inr 0) else .inr 0
def g_drop1 (G : Nat → Int32) (F r : Nat) : Nat → Int32 := u1 (shf G (174 + 84 * F + (60 + 4 * r)) (174 + 84 * F + (60 + 4 * ((G (174 + 84 * F + 4)).toInt.toNat - 1))) 4) (174 + 84 * F + 4) (nI ((G (174 + 84 * F + 4)).toInt.toNat - 1))
def g_drop (G : Nat → Int32) (nF : Nat) (f s : Int32) : Nat → Int32 := if (0 ≤ f.toInt ∧ f.toInt < (nF : Int)) then (if 0 ≤ s.toInt ∧ s.toInt < (G (174 + 84 * f.toInt.toNat + 4)).toInt then g_drop1 G f.toInt.toNat s.toInt.toNat else G) else G
def o_free (G : Nat → Int32) (nF : Nat) (f : Int32) : Out := if (0 ≤ f.toInt ∧ f.toInt < (nF : Int)) then .inl (G (174 + 84 * f.toInt.toNat + 5)) else .inr 0
def g_free (G : Nat → Int32) (nF : Nat) (f : Int32) : Nat → Int32 := if (0 ≤ f.toInt ∧ f.toInt < (nF : Int)) then u1 G (174 + 84 * f.toInt.toNat + 5) (nI 0) else G
def o_seed (G : Nat → Int32) : Out := .inl (G 5)
def g_seed (G : Nat → Int32) (v : Int32) : Nat → Int32 := u1 G 5 v
def o_step (G : Nat → Int32) (nF : Nat) (t f s k q : Int32) : Out := if ((G 3).toInt ≤ t.toInt ∧ t.toInt ≤ 1000000) ∧ (0 ≤ f.toInt ∧ f.toInt < (nF : Int)) ∧ (0 ≤ s.toInt ∧ s.toInt ≤ 5) ∧ (1 ≤ k.toInt ∧ k.toInt ≤ (G (174 + 84 * f.toInt.toNat + 0)).toInt) ∧ (0 ≤ q.toInt ∧ q.toInt ≤ 333) then (if (G 2).toInt = 24 then .inr 4 else .inl (nI ((G 2).toInt.toNat + 1))) else .inr 0
def g_step1 (G : Nat → Int32) (n : Nat) (t f s k q : Int32) : Nat → Int32 := u1 (u1 (u1 (u1 (u1 (u1 G (54 + 5 * n) t) (54 + 5 * n + 1) f) (54 + 5 * n + 2) s) (54 + 5 * n + 3) k) (54 + 5 * n + 4) q) 2 (nI (n + 1))
def g_step (G : Nat → Int32) (nF : Nat) (t f s k q : Int32) : Nat → Int32 := if ((G 3).toInt ≤ t.toInt ∧ t.toInt ≤ 1000000) ∧ (0 ≤ f.toInt ∧ f.toInt < (nF : Int)) ∧ (0 ≤ s.toInt ∧ s.toInt ≤ 5) ∧ (1 ≤ k.toInt ∧ k.toInt ≤ (G (174 + 84 * f.toInt.toNat + 0)).toInt) ∧ (0 ≤ q.toInt ∧ q.toInt ≤ 333) then (if (G 2).toInt = 24 then G else g_step1 G (G 2).toInt.toNat t f s k q) else G
theorem l_M_feature {d : Nat} {I : Nat → Nat → Int32} {R : Nat → Nat → Option Nat} {L : Nat → Nat → Int64} {sh : Nat → Nat × Nat} {N : Nat} (hS : ShOK sh) (hR : RfOK R) {nF : Nat} (hF : nF < 12) {n : Int32} (hd : 1 ≤ d) {Q : Option Value → HS → Prop} (hk : ∀ J, FrS (setR I 762 (fil (I 762) (174 + 84 * nF + 0) (174 + 84 * nF + 84) (nI 0))) J → Run mi_M_feature d 0 0 60 [(0, .ref 761), (1, .int n), (2, .int (nI nF))] [] (J, R, L, sh, N) Q) : ∀ (n_ : Nat) (i : Nat) (J : Nat → Nat → Int32), 84 - i = n_ → (FrS (setR I 762 (fil (I 762) (174 + 84 * nF + 0) (174 + 84 * nF + i) (nI 0))) J) → (i ≤ 84) → Run mi_M_feature d 0 0 41 [(0, .ref 761), (1, .int n), (2, .int (nI nF)), (3, .int (nI i))] [] (J, R, L, sh, N) Q := by
  intro n_
  induction n_ using Nat.strongRecOn with | ind n_ ih_ => ?_
  intro i J hn_ v0_ v1_
  refine r_iload_n (pc2 := 42) d_M_feature_41 rfl rfl ?_
  refine r_bipush (v := nI 84) (pc2 := 44) d_M_feature_42 rfl (by decide) ?_
  refine q_icmp_ge (tgt := 60) (A := ((i : Nat) : Int)) (B := (84 : Int)) (pc2 := 47) d_M_feature_44 rfl rfl (nI_toInt (by omega)) (nI_toInt (by omega)) (fun c1 => ?_) (fun c1 => ?_)
  · refine Run.sub (l2 := [(0, .ref 761), (1, .int n), (2, .int (nI nF))]) ⟨rfl, rfl, rfl, trivial⟩ ?_
    exact hk J (by rw [show i = 84 by omega] at v0_; exact v0_)
  · refine r_aload_n (x := some 761) (pc2 := 48) d_M_feature_47 rfl rfl ?_
    refine r_iload_n (pc2 := 49) d_M_feature_48 rfl rfl ?_
    refine r_iload_n (pc2 := 50) d_M_feature_49 rfl rfl ?_
    refine r_iconst (v := nI 0) (pc2 := 51) d_M_feature_50 rfl (by decide) ?_
    refine q_callvV (M2 := mi_M_is) (pc2 := 54) d_M_feature_51 rfl k_M_157 cm_M_is cv_M_is (sh_761 hS) (by decide) rfl rfl rfl (Nat.le_of_ble_eq_true rfl) (c_M_is (I := J) (F := nF) (W := i) (v := nI 0) hS hR (by omega)) (d2 := d - 1) (by omega) (Nat.le_of_eq (Nat.zero_add _)) (Nat.le_of_eq (Nat.zero_add _)) ?_
    obtain ⟨I2, hI2⟩ : ∃ x, x = u2 J 762 (174 + 84 * nF + i) (nI 0) := ⟨_, rfl⟩
    rw [← hI2]
    refine q_iinc (b := 1) (pc2 := 57) d_M_feature_54 rfl rfl (by decide) (Nat.le_of_ble_eq_true rfl) ?_
    refine r_goto (tgt := 41) d_M_feature_57 rfl ?_
    refine Run.sub (l2 := [(0, .ref 761), (1, .int n), (2, .int (nI nF)), (3, .int (nI (i + 1)))]) ⟨rfl, rfl, rfl, rfl, trivial⟩ ?_
    exact ih_ (84 - (i + 1)) (by omega) (i + 1) I2 rfl (setR_fil v0_ hI2 (by omega) (by omega)) (by omega)
theorem c_M_feature {d : Nat} {I : Nat → Nat → Int32} {R : Nat → Nat → Option Nat} {L : Nat → Nat → Int64} {sh : Nat → Nat × Nat} {N : Nat} (hS : ShOK sh) (hR : RfOK R) {kA fA cA gA nk nt : Nat} (hT : TRf R sh kA fA cA gA nk) (hTn : TNe kA fA cA gA) (hV : TV (I kA) (I fA) (I cA) nt) (hnt : nt ≤ nk) (hnk : nk ≤ 1000000) {nP nF : Nat} (hW : WFA (I 762) nP nF nt) {rk : Nat → Nat} (hrk : RK (I 762) nF rk) {n : Int32} (hd : nt + 60 ≤ d) : Mt mi_M_feature d 0 0 [.ref 761, .int n] (I, R, L, sh, N) (RQW I R L sh N (o_feature nF n) (g_feature (I 762) nF n)) := by
  obtain ⟨hPc, hP24, hFc, hF12, hWF, hWP⟩ := id hW
  obtain ⟨hn1, hn2, hn3, hn4⟩ := id hTn
  refine Mt.of pn_M (Nat.le_of_ble_eq_true rfl) ?_
  show Run mi_M_feature d 0 0 0 [(0, .ref 761), (1, .int n)] [] (I, R, L, sh, N) _
  refine r_iload_n (pc2 := 1) d_M_feature_0 rfl rfl ?_
  refine r_i2l (pc2 := 2) d_M_feature_1 rfl ?_
  refine r_lconst (v := (1 : Int64)) (pc2 := 3) d_M_feature_2 rfl (by decide) ?_
  refine r_ldc2 (pc2 := 6) d_M_feature_3 rfl k_M_210 ?_
  refine q_calls (M2 := mi_M_in) (pc2 := 9) d_M_feature_6 rfl k_M_68 cm_M_in cs_M_in rfl rfl (Nat.le_of_ble_eq_true rfl) (c_M_in (A := n.toInt) (B := (1 : Int)) (C := (3 : Int)) (toInt64_toInt (rfl)) (by decide) (by decide)) (d2 := d - 1) (by omega) (Nat.le_of_eq (Nat.zero_add _)) (Nat.le_of_eq (Nat.zero_add _)) ?_
  refine q_bif_ne (tgt := 19) (pc2 := 12) d_M_feature_9 rfl rfl (fun c1 => ?_) (fun c1 => ?_)
  · obtain ⟨nN, hnN, gnN, rfl, enN⟩ := nat_of' (show (0 : Int) ≤ (1 : Int) by decide) c1
    refine r_aload_n (x := some 761) (pc2 := 20) d_M_feature_19 rfl rfl ?_
    refine q_getR (x := some 762) (pc2 := 23) d_M_feature_20 rfl k_M_9 rfl (sh_761 hS) (rf_761_0 hR) ?_
    refine r_iconst (v := nI 1) (pc2 := 24) d_M_feature_23 rfl (by decide) ?_
    refine q_iaload (q := 1) (x := nI nF) (pc2 := 25) d_M_feature_24 rfl (sh_762 hS) (nI_toInt (by omega)) (by omega) hFc ?_
    refine r_istore_n (pc2 := 26) d_M_feature_25 rfl rfl (Nat.le_of_ble_eq_true rfl) ?_
    refine r_iload_n (pc2 := 27) d_M_feature_26 rfl rfl ?_
    refine r_bipush (v := nI 12) (pc2 := 29) d_M_feature_27 rfl (by decide) ?_
    refine q_icmp_ne (tgt := 39) (A := ((nF : Nat) : Int)) (B := (12 : Int)) (pc2 := 32) d_M_feature_29 rfl rfl (nI_toInt (by omega)) (nI_toInt (by omega)) (fun c2 => ?_) (fun c2 => ?_)
    · refine r_iconst (v := nI 0) (pc2 := 40) d_M_feature_39 rfl (by decide) ?_
      refine r_istore_n (pc2 := 41) d_M_feature_40 rfl rfl (Nat.le_of_ble_eq_true rfl) ?_
      refine Run.sub (l2 := [(0, .ref 761), (1, .int (nI nN)), (2, .int (nI nF)), (3, .int (nI 0))]) ⟨rfl, rfl, rfl, rfl, trivial⟩ ?_
      refine l_M_feature (n := nI nN) hS hR (nF := nF) (by omega) (by omega) (hk := fun J3 hJ3 => ?_) _ 0 I rfl (by rw [Nat.add_zero, fil_0]; exact FrS.rf.set) (by omega)
      have hGJ3 := hJ3.row2
      refine r_aload_n (x := some 761) (pc2 := 61) d_M_feature_60 rfl rfl ?_
      refine r_iload_n (pc2 := 62) d_M_feature_61 rfl rfl ?_
      refine r_iconst (v := nI 0) (pc2 := 63) d_M_feature_62 rfl (by decide) ?_
      refine r_iload_n (pc2 := 64) d_M_feature_63 rfl rfl ?_
      refine q_callvV (M2 := mi_M_is) (pc2 := 67) d_M_feature_64 rfl k_M_157 cm_M_is cv_M_is (sh_761 hS) (by decide) rfl rfl rfl (Nat.le_of_ble_eq_true rfl) (c_M_is (I := J3) (F := nF) (W := 0) (v := nI nN) hS hR (by omega)) (d2 := d - 1) (by omega) (Nat.le_of_eq (Nat.zero_add _)) (Nat.le_of_eq (Nat.zero_add _)) ?_
      obtain ⟨I4, hI4⟩ : ∃ x, x = u2 J3 762 (174 + 84 * nF + 0) (nI nN) := ⟨_, rfl⟩
      rw [← hI4]
      refine r_aload_n (x := some 761) (pc2 := 68) d_M_feature_67 rfl rfl ?_
      refine r_iload_n (pc2 := 69) d_M_feature_68 rfl rfl ?_
      refine r_bipush (v := nI 7) (pc2 := 71) d_M_feature_69 rfl (by decide) ?_
      refine r_iconst (v := (-1 : Int32)) (pc2 := 72) d_M_feature_71 rfl (by decide) ?_
      refine q_callvV (M2 := mi_M_is) (pc2 := 75) d_M_feature_72 rfl k_M_157 cm_M_is cv_M_is (sh_761 hS) (by decide) rfl rfl rfl (Nat.le_of_ble_eq_true rfl) (c_M_is (I := I4) (F := nF) (W := 7) (v := (-1 : Int32)) hS hR (by omega)) (d2 := d - 1) (by omega) (Nat.le_of_eq (Nat.zero_add _)) (Nat.le_of_eq (Nat.zero_add _)) ?_
      obtain ⟨I5, hI5⟩ : ∃ x, x = u2 I4 762 (174 + 84 * nF + 7) ((-1 : Int32)) := ⟨_, rfl⟩
      rw [← hI5]
      refine r_aload_n (x := some 761) (pc2 := 76) d_M_feature_75 rfl rfl ?_
      refine q_getR (x := some 762) (pc2 := 79) d_M_feature_76 rfl k_M_9 rfl (sh_761 hS) (rf_761_0 hR) ?_
      refine r_iconst (v := nI 1) (pc2 := 80) d_M_feature_79 rfl (by decide) ?_
      refine r_iload_n (pc2 := 81) d_M_feature_80 rfl rfl ?_
      refine r_iconst (v := nI 1) (pc2 := 82) d_M_feature_81 rfl (by decide) ?_
      refine q_iaddN (pc2 := 83) d_M_feature_82 rfl ?_
      refine q_iastore (q := 1) (pc2 := 84) d_M_feature_83 rfl (sh_762 hS) (nI_toInt (by omega)) (by omega) (fun I6 hI6 => ?_)
      refine r_iload_n (pc2 := 85) d_M_feature_84 rfl rfl ?_
      refine Run.ret (some (.int (nI nF))) d_M_feature_85 ⟨_, rfl⟩ ?_
      exact RQW.val (by (unfold o_feature); (try dsimp only); (try simp only [enN, Int.toNat_natCast]); (repeat (first | rw [if_pos (by omega)] | rw [if_neg (by omega)])); (try rfl); (all_goals first | rfl | ((repeat' split) <;> first | rfl | (exfalso; omega)))) (by (unfold g_feature); (try dsimp only); (try simp only [enN, Int.toNat_natCast]); (repeat (first | rw [if_pos (by omega)] | rw [if_neg (by omega)])); exact (setR_put (setR_put (setR_put hJ3 hI4) hI5) hI6))
    · refine r_aload_n (x := some 761) (pc2 := 33) d_M_feature_32 rfl rfl ?_
      refine r_bipush (v := (-36 : Int32)) (pc2 := 35) d_M_feature_33 rfl (by decide) ?_
      refine q_callv (M2 := mi_M_refused) (pc2 := 38) d_M_feature_35 rfl k_M_106 cm_M_refused cv_M_refused (sh_761 hS) (by decide) rfl rfl rfl (Nat.le_of_ble_eq_true rfl) (c_M_refused_4 (I := I) hS hR) (d2 := d - 1) (by omega) (Nat.le_of_eq (Nat.zero_add _)) (Nat.le_of_eq (Nat.zero_add _)) ?_
      obtain ⟨I7, hI7⟩ : ∃ x, x = u2 I 765 4 (I 765 4 + nI 1) := ⟨_, rfl⟩
      rw [← hI7]
      refine Run.ret (some (.int ((-36 : Int32)))) d_M_feature_38 ⟨_, rfl⟩ ?_
      exact RQW.bad 4 (by (unfold o_feature); (try dsimp only); (try simp only [enN, Int.toNat_natCast]); (repeat (first | rw [if_pos (by omega)] | rw [if_neg (by omega)])); (try rfl); (all_goals first | rfl | ((repeat' split) <;> first | rfl | (exfalso; omega))); (try rfl)) (by (unfold g_feature); (try dsimp only); (try simp only [enN, Int.toNat_natCast]); (repeat (first | rw [if_pos (by omega)] | rw [if_neg (by omega)])); (try rfl); (all_goals first | rfl | ((repeat' split) <;> first | rfl | (exfalso; omega))); (try rfl)) (by decide) FrS.rf hI7
  · refine r_aload_n (x := some 761) (pc2 := 13) d_M_feature_12 rfl rfl ?_
    refine r_bipush (v := (-32 : Int32)) (pc2 := 15) d_M_feature_13 rfl (by decide) ?_
    refine q_callv (M2 := mi_M_refused) (pc2 := 18) d_M_feature_15 rfl k_M_106 cm_M_refused cv_M_refused (sh_761 hS) (by decide) rfl rfl rfl (Nat.le_of_ble_eq_true rfl) (c_M_refused_0 (I := I) hS hR) (d2 := d - 1) (by omega) (Nat.le_of_eq (Nat.zero_add _)) (Nat.le_of_eq (Nat.zero_add _)) ?_
    obtain ⟨I8, hI8⟩ : ∃ x, x = u2 I 765 0 (I 765 0 + nI 1) := ⟨_, rfl⟩
    rw [← hI8]
    refine Run.ret (some (.int ((-32 : Int32)))) d_M_feature_18 ⟨_, rfl⟩ ?_
    exact RQW.bad 0 (by (unfold o_feature); (try dsimp only); (try simp only [Int.toNat_natCast]); (repeat (first | rw [if_pos (by omega)] | rw [if_neg (by omega)])); (try rfl); (all_goals first | rfl | ((repeat' split) <;> first | rfl | (exfalso; omega))); (try rfl)) (by (unfold g_feature); (try dsimp only); (try simp only [Int.toNat_natCast]); (repeat (first | rw [if_pos (by omega)] | rw [if_neg (by omega)])); (try rfl); (all_goals first | rfl | ((repeat' split) <;> first | rfl | (exfalso; omega))); (try rfl)) (by decide) FrS.rf hI8
theorem c_M_tell {d : Nat} {I : Nat → Nat → Int32} {R : Nat → Nat → Option Nat} {L : Nat → Nat → Int64} {sh : Nat → Nat × Nat} {N : Nat} (hS : ShOK sh) (hR : RfOK R) {kA fA cA gA nk nt : Nat} (hT : TRf R sh kA fA cA gA nk) (hTn : TNe kA fA cA gA) (hV : TV (I kA) (I fA) (I cA) nt) (hnt : nt ≤ nk) (hnk : nk ≤ 1000000) {nP nF : Nat} (hW : WFA (I 762) nP nF nt) {rk : Nat → Nat} (hrk : RK (I 762) nF rk) {f : Int32} {k : Int32} {v : Int32} (hd : nt + 60 ≤ d) : Mt mi_M_tell d 0 0 [.ref 761, .int f, .int k, .int v] (I, R, L, sh, N) (RQW I R L sh N (o_tell (I 762) nF f k v) (g_tell (I 762) nF f k v)) := by
  obtain ⟨hPc, hP24, hFc, hF12, hWF, hWP⟩ := id hW
  obtain ⟨hn1, hn2, hn3, hn4⟩ := id hTn
  refine Mt.of pn_M (Nat.le_of_ble_eq_true rfl) ?_
  show Run mi_M_tell d 0 0 0 [(0, .ref 761), (1, .int f), (2, .int k), (3, .int v)] [] (I, R, L, sh, N) _
  refine r_aload_n (x := some 761) (pc2 := 1) d_M_tell_0 rfl rfl ?_
  refine r_iload_n (pc2 := 2) d_M_tell_1 rfl rfl ?_
  refine q_callv (M2 := mi_M_isFeature) (pc2 := 5) d_M_tell_2 rfl k_M_72 cm_M_isFeature cv_M_isFeature (sh_761 hS) (by decide) rfl rfl rfl (Nat.le_of_ble_eq_true rfl) (c_M_isFeature (I := I) (nF := nF) (f := f) hS hR (hFc) hF12 (by omega)) (d2 := d - 1) (by omega) (Nat.le_of_eq (Nat.zero_add _)) (Nat.le_of_eq (Nat.zero_add _)) ?_
  refine q_bif_eq (tgt := 45) (pc2 := 8) d_M_tell_5 rfl rfl (fun c1 => ?_) (fun c1 => ?_)
  · refine r_aload_n (x := some 761) (pc2 := 46) d_M_tell_45 rfl rfl ?_
    refine r_bipush (v := (-32 : Int32)) (pc2 := 48) d_M_tell_46 rfl (by decide) ?_
    refine q_callv (M2 := mi_M_refused) (pc2 := 51) d_M_tell_48 rfl k_M_106 cm_M_refused cv_M_refused (sh_761 hS) (by decide) rfl rfl rfl (Nat.le_of_ble_eq_true rfl) (c_M_refused_0 (I := I) hS hR) (d2 := d - 1) (by omega) (Nat.le_of_eq (Nat.zero_add _)) (Nat.le_of_eq (Nat.zero_add _)) ?_
    obtain ⟨I2, hI2⟩ : ∃ x, x = u2 I 765 0 (I 765 0 + nI 1) := ⟨_, rfl⟩
    rw [← hI2]
    refine Run.ret (some (.int ((-32 : Int32)))) d_M_tell_51 ⟨_, rfl⟩ ?_
    exact RQW.bad 0 (by (unfold o_tell); (try dsimp only); (try simp only [Int.toNat_natCast]); (repeat (first | rw [if_pos (by omega)] | rw [if_neg (by omega)])); (try rfl); (all_goals first | rfl | ((repeat' split) <;> first | rfl | (exfalso; omega))); (try rfl)) (by (unfold g_tell); (try dsimp only); (try simp only [Int.toNat_natCast]); (repeat (first | rw [if_pos (by omega)] | rw [if_neg (by omega)])); (try rfl); (all_goals first | rfl | ((repeat' split) <;> first | rfl | (exfalso; omega))); (try rfl)) (by decide) FrS.rf hI2
  · obtain ⟨fN, hfN, rfl, efN⟩ := nat_of c1
    obtain ⟨tpfN, klfN, skfN, fbfN, nRfN, nNfN, nOfN, frfN, tofN, ⟨a0fN, b0fN, cc0fN, dd0fN⟩, ⟨a1fN, b1fN, cc1fN, dd1fN⟩, ⟨a2fN, b2fN, cc2fN, dd2fN⟩, ⟨a3fN, b3fN, cc3fN, dd3fN⟩, ⟨a4fN, b4fN, cc4fN, dd4fN⟩, ⟨a5fN, b5fN, cc5fN, dd5fN⟩, ⟨a6fN, b6fN, cc6fN, dd6fN⟩, ⟨a8fN, b8fN, cc8fN, dd8fN⟩, ⟨a9fN, b9fN, cc9fN, dd9fN⟩⟩ := wfn (hWF fN hfN)
    obtain ⟨-, -, -, -, -, -, -, w7fN, -, -, wNfN, wRfN, wKfN, wOfN⟩ := hWF fN hfN
    refine r_iload_n (pc2 := 9) d_M_tell_8 rfl rfl ?_
    refine r_i2l (pc2 := 10) d_M_tell_9 rfl ?_
    refine r_lconst (v := (0 : Int64)) (pc2 := 11) d_M_tell_10 rfl (by decide) ?_
    refine r_ldc2 (pc2 := 14) d_M_tell_11 rfl k_M_221 ?_
    refine q_calls (M2 := mi_M_in) (pc2 := 17) d_M_tell_14 rfl k_M_68 cm_M_in cs_M_in rfl rfl (Nat.le_of_ble_eq_true rfl) (c_M_in (A := k.toInt) (B := (0 : Int)) (C := (2 : Int)) (toInt64_toInt (rfl)) (by decide) (by decide)) (d2 := d - 1) (by omega) (Nat.le_of_eq (Nat.zero_add _)) (Nat.le_of_eq (Nat.zero_add _)) ?_
    refine q_bif_eq (tgt := 45) (pc2 := 20) d_M_tell_17 rfl rfl (fun c3 => ?_) (fun c3 => ?_)
    · refine r_aload_n (x := some 761) (pc2 := 46) d_M_tell_45 rfl rfl ?_
      refine r_bipush (v := (-32 : Int32)) (pc2 := 48) d_M_tell_46 rfl (by decide) ?_
      refine q_callv (M2 := mi_M_refused) (pc2 := 51) d_M_tell_48 rfl k_M_106 cm_M_refused cv_M_refused (sh_761 hS) (by decide) rfl rfl rfl (Nat.le_of_ble_eq_true rfl) (c_M_refused_0 (I := I) hS hR) (d2 := d - 1) (by omega) (Nat.le_of_eq (Nat.zero_add _)) (Nat.le_of_eq (Nat.zero_add _)) ?_
      obtain ⟨I4, hI4⟩ : ∃ x, x = u2 I 765 0 (I 765 0 + nI 1) := ⟨_, rfl⟩
      rw [← hI4]
      refine Run.ret (some (.int ((-32 : Int32)))) d_M_tell_51 ⟨_, rfl⟩ ?_
      exact RQW.bad 0 (by (unfold o_tell); (try dsimp only); (try simp only [efN, b0fN, b1fN, b2fN, b3fN, b4fN, b5fN, b6fN, b8fN, b9fN, Int.toNat_natCast]); (repeat (first | rw [if_pos (by omega)] | rw [if_neg (by omega)])); (try rfl); (all_goals first | rfl | (simp only [a0fN, a1fN, a2fN, a3fN, a4fN, a5fN, a6fN, a8fN, a9fN]; done) | ((repeat' split) <;> first | rfl | (simp only [a0fN, a1fN, a2fN, a3fN, a4fN, a5fN, a6fN, a8fN, a9fN]; done) | (exfalso; omega))); (try rfl)) (by (unfold g_tell); (try dsimp only); (try simp only [efN, b0fN, b1fN, b2fN, b3fN, b4fN, b5fN, b6fN, b8fN, b9fN, Int.toNat_natCast]); (repeat (first | rw [if_pos (by omega)] | rw [if_neg (by omega)])); (try rfl); (all_goals first | rfl | (simp only [a0fN, a1fN, a2fN, a3fN, a4fN, a5fN, a6fN, a8fN, a9fN]; done) | ((repeat' split) <;> first | rfl | (simp only [a0fN, a1fN, a2fN, a3fN, a4fN, a5fN, a6fN, a8fN, a9fN]; done) | (exfalso; omega))); (try rfl)) (by decide) FrS.rf hI4
    · obtain ⟨kN, hkN, gkN, rfl, ekN⟩ := nat_of' (show (0 : Int) ≤ (0 : Int) by decide) c3
      refine r_iload_n (pc2 := 21) d_M_tell_20 rfl rfl ?_
      refine r_i2l (pc2 := 22) d_M_tell_21 rfl ?_
      refine r_lconst (v := (0 : Int64)) (pc2 := 23) d_M_tell_22 rfl (by decide) ?_
      refine r_iload_n (pc2 := 24) d_M_tell_23 rfl rfl ?_
      refine r_iconst (v := nI 2) (pc2 := 25) d_M_tell_24 rfl (by decide) ?_
      refine q_icmp_ne (tgt := 38) (A := ((kN : Nat) : Int)) (B := (2 : Int)) (pc2 := 28) d_M_tell_25 rfl rfl (nI_toInt (by omega)) (nI_toInt (by omega)) (fun c5 => ?_) (fun c5 => ?_)
      · refine r_lconst (v := (1 : Int64)) (pc2 := 39) d_M_tell_38 rfl (by decide) ?_
        refine q_calls (M2 := mi_M_in) (pc2 := 42) d_M_tell_39 rfl k_M_68 cm_M_in cs_M_in rfl rfl (Nat.le_of_ble_eq_true rfl) (c_M_in (A := v.toInt) (B := (0 : Int)) (C := (1 : Int)) (toInt64_toInt (rfl)) (by decide) (by decide)) (d2 := d - 1) (by omega) (Nat.le_of_eq (Nat.zero_add _)) (Nat.le_of_eq (Nat.zero_add _)) ?_
        refine q_bif_ne (tgt := 52) (pc2 := 45) d_M_tell_42 rfl rfl (fun c6 => ?_) (fun c6 => ?_)
        · obtain ⟨vN, hvN, gvN, rfl, evN⟩ := nat_of' (show (0 : Int) ≤ (0 : Int) by decide) c6
          refine r_aload_n (x := some 761) (pc2 := 53) d_M_tell_52 rfl rfl ?_
          refine r_iload_n (pc2 := 54) d_M_tell_53 rfl rfl ?_
          refine r_iconst (v := nI 1) (pc2 := 55) d_M_tell_54 rfl (by decide) ?_
          refine r_iload_n (pc2 := 56) d_M_tell_55 rfl rfl ?_
          refine q_iaddN (pc2 := 57) d_M_tell_56 rfl ?_
          refine q_callv (M2 := mi_M_of) (pc2 := 60) d_M_tell_57 rfl k_M_76 cm_M_of cv_M_of (sh_761 hS) (by decide) rfl rfl rfl (Nat.le_of_ble_eq_true rfl) (c_M_of (I := I) (F := fN) (W := 1 + kN) hS hR (by omega)) (d2 := d - 1) (by omega) (Nat.le_of_eq (Nat.zero_add _)) (Nat.le_of_eq (Nat.zero_add _)) ?_
          refine r_istore (pc2 := 62) d_M_tell_60 rfl (Nat.le_of_ble_eq_true rfl) ?_
          refine r_aload_n (x := some 761) (pc2 := 63) d_M_tell_62 rfl rfl ?_
          refine r_iload_n (pc2 := 64) d_M_tell_63 rfl rfl ?_
          refine r_iconst (v := nI 1) (pc2 := 65) d_M_tell_64 rfl (by decide) ?_
          refine r_iload_n (pc2 := 66) d_M_tell_65 rfl rfl ?_
          refine q_iaddN (pc2 := 67) d_M_tell_66 rfl ?_
          refine r_iload_n (pc2 := 68) d_M_tell_67 rfl rfl ?_
          refine q_callvV (M2 := mi_M_is) (pc2 := 71) d_M_tell_68 rfl k_M_157 cm_M_is cv_M_is (sh_761 hS) (by decide) rfl rfl rfl (Nat.le_of_ble_eq_true rfl) (c_M_is (I := I) (F := fN) (W := 1 + kN) (v := nI vN) hS hR (by omega)) (d2 := d - 1) (by omega) (Nat.le_of_eq (Nat.zero_add _)) (Nat.le_of_eq (Nat.zero_add _)) ?_
          obtain ⟨I7, hI7⟩ : ∃ x, x = u2 I 762 (174 + 84 * fN + (1 + kN)) (nI vN) := ⟨_, rfl⟩
          rw [← hI7]
          refine r_iload (pc2 := 73) d_M_tell_71 rfl rfl ?_
          refine Run.ret (some (.int (I 762 (174 + 84 * fN + (1 + kN))))) d_M_tell_73 ⟨_, rfl⟩ ?_
          exact RQW.val (by (unfold o_tell); (try dsimp only); (try simp only [efN, b0fN, b1fN, b2fN, b3fN, b4fN, b5fN, b6fN, b8fN, b9fN, ekN, evN, Int.toNat_natCast]); (repeat (first | rw [if_pos (by omega)] | rw [if_neg (by omega)])); (try rfl); (all_goals first | rfl | (simp only [a0fN, a1fN, a2fN, a3fN, a4fN, a5fN, a6fN, a8fN, a9fN]; done) | ((repeat' split) <;> first | rfl | (simp only [a0fN, a1fN, a2fN, a3fN, a4fN, a5fN, a6fN, a8fN, a9fN]; done) | (exfalso; omega)))) (by (unfold g_tell); (try dsimp only); (try simp only [efN, b0fN, b1fN, b2fN, b3fN, b4fN, b5fN, b6fN, b8fN, b9fN, ekN, evN, Int.toNat_natCast]); (repeat (first | rw [if_pos (by omega)] | rw [if_neg (by omega)])); exact (setR_put FrS.rf.set hI7))
        · refine r_aload_n (x := some 761) (pc2 := 46) d_M_tell_45 rfl rfl ?_
          refine r_bipush (v := (-32 : Int32)) (pc2 := 48) d_M_tell_46 rfl (by decide) ?_
          refine q_callv (M2 := mi_M_refused) (pc2 := 51) d_M_tell_48 rfl k_M_106 cm_M_refused cv_M_refused (sh_761 hS) (by decide) rfl rfl rfl (Nat.le_of_ble_eq_true rfl) (c_M_refused_0 (I := I) hS hR) (d2 := d - 1) (by omega) (Nat.le_of_eq (Nat.zero_add _)) (Nat.le_of_eq (Nat.zero_add _)) ?_
          obtain ⟨I8, hI8⟩ : ∃ x, x = u2 I 765 0 (I 765 0 + nI 1) := ⟨_, rfl⟩
          rw [← hI8]
          refine Run.ret (some (.int ((-32 : Int32)))) d_M_tell_51 ⟨_, rfl⟩ ?_
          exact RQW.bad 0 (by (unfold o_tell); (try dsimp only); (try simp only [efN, b0fN, b1fN, b2fN, b3fN, b4fN, b5fN, b6fN, b8fN, b9fN, ekN, Int.toNat_natCast]); (repeat (first | rw [if_pos (by omega)] | rw [if_neg (by omega)])); (try rfl); (all_goals first | rfl | (simp only [a0fN, a1fN, a2fN, a3fN, a4fN, a5fN, a6fN, a8fN, a9fN]; done) | ((repeat' split) <;> first | rfl | (simp only [a0fN, a1fN, a2fN, a3fN, a4fN, a5fN, a6fN, a8fN, a9fN]; done) | (exfalso; omega))); (try rfl)) (by (unfold g_tell); (try dsimp only); (try simp only [efN, b0fN, b1fN, b2fN, b3fN, b4fN, b5fN, b6fN, b8fN, b9fN, ekN, Int.toNat_natCast]); (repeat (first | rw [if_pos (by omega)] | rw [if_neg (by omega)])); (try rfl); (all_goals first | rfl | (simp only [a0fN, a1fN, a2fN, a3fN, a4fN, a5fN, a6fN, a8fN, a9fN]; done) | ((repeat' split) <;> first | rfl | (simp only [a0fN, a1fN, a2fN, a3fN, a4fN, a5fN, a6fN, a8fN, a9fN]; done) | (exfalso; omega))); (try rfl)) (by decide) FrS.rf hI8
      · refine r_aload_n (x := some 761) (pc2 := 29) d_M_tell_28 rfl rfl ?_
        refine r_iload_n (pc2 := 30) d_M_tell_29 rfl rfl ?_
        refine r_iconst (v := nI 0) (pc2 := 31) d_M_tell_30 rfl (by decide) ?_
        refine q_callv (M2 := mi_M_of) (pc2 := 34) d_M_tell_31 rfl k_M_76 cm_M_of cv_M_of (sh_761 hS) (by decide) rfl rfl rfl (Nat.le_of_ble_eq_true rfl) (c_M_of (I := I) (F := fN) (W := 0) hS hR (by omega)) (d2 := d - 1) (by omega) (Nat.le_of_eq (Nat.zero_add _)) (Nat.le_of_eq (Nat.zero_add _)) ?_
        refine q_top (y := nI tpfN) (a0fN) ?_
        refine r_i2l (pc2 := 35) d_M_tell_34 rfl ?_
        refine r_goto (tgt := 39) d_M_tell_35 rfl ?_
        refine q_calls (M2 := mi_M_in) (pc2 := 42) d_M_tell_39 rfl k_M_68 cm_M_in cs_M_in rfl rfl (Nat.le_of_ble_eq_true rfl) (c_M_in (A := v.toInt) (B := (0 : Int)) (C := ((tpfN : Nat) : Int)) (toInt64_toInt (rfl)) (by decide) (toInt64_toInt (nI_toInt (by omega)))) (d2 := d - 1) (by omega) (Nat.le_of_eq (Nat.zero_add _)) (Nat.le_of_eq (Nat.zero_add _)) ?_
        refine q_bif_ne (tgt := 52) (pc2 := 45) d_M_tell_42 rfl rfl (fun c9 => ?_) (fun c9 => ?_)
        · obtain ⟨vN, hvN, gvN, rfl, evN⟩ := nat_of' (show (0 : Int) ≤ (0 : Int) by decide) c9
          refine r_aload_n (x := some 761) (pc2 := 53) d_M_tell_52 rfl rfl ?_
          refine r_iload_n (pc2 := 54) d_M_tell_53 rfl rfl ?_
          refine r_iconst (v := nI 1) (pc2 := 55) d_M_tell_54 rfl (by decide) ?_
          refine r_iload_n (pc2 := 56) d_M_tell_55 rfl rfl ?_
          refine q_iaddN (pc2 := 57) d_M_tell_56 rfl ?_
          refine q_callv (M2 := mi_M_of) (pc2 := 60) d_M_tell_57 rfl k_M_76 cm_M_of cv_M_of (sh_761 hS) (by decide) rfl rfl rfl (Nat.le_of_ble_eq_true rfl) (c_M_of (I := I) (F := fN) (W := 1 + kN) hS hR (by omega)) (d2 := d - 1) (by omega) (Nat.le_of_eq (Nat.zero_add _)) (Nat.le_of_eq (Nat.zero_add _)) ?_
          refine r_istore (pc2 := 62) d_M_tell_60 rfl (Nat.le_of_ble_eq_true rfl) ?_
          refine r_aload_n (x := some 761) (pc2 := 63) d_M_tell_62 rfl rfl ?_
          refine r_iload_n (pc2 := 64) d_M_tell_63 rfl rfl ?_
          refine r_iconst (v := nI 1) (pc2 := 65) d_M_tell_64 rfl (by decide) ?_
          refine r_iload_n (pc2 := 66) d_M_tell_65 rfl rfl ?_
          refine q_iaddN (pc2 := 67) d_M_tell_66 rfl ?_
          refine r_iload_n (pc2 := 68) d_M_tell_67 rfl rfl ?_
          refine q_callvV (M2 := mi_M_is) (pc2 := 71) d_M_tell_68 rfl k_M_157 cm_M_is cv_M_is (sh_761 hS) (by decide) rfl rfl rfl (Nat.le_of_ble_eq_true rfl) (c_M_is (I := I) (F := fN) (W := 1 + kN) (v := nI vN) hS hR (by omega)) (d2 := d - 1) (by omega) (Nat.le_of_eq (Nat.zero_add _)) (Nat.le_of_eq (Nat.zero_add _)) ?_
          obtain ⟨I10, hI10⟩ : ∃ x, x = u2 I 762 (174 + 84 * fN + (1 + kN)) (nI vN) := ⟨_, rfl⟩
          rw [← hI10]
          refine r_iload (pc2 := 73) d_M_tell_71 rfl rfl ?_
          refine Run.ret (some (.int (I 762 (174 + 84 * fN + (1 + kN))))) d_M_tell_73 ⟨_, rfl⟩ ?_
          exact RQW.val (by (unfold o_tell); (try dsimp only); (try simp only [efN, b0fN, b1fN, b2fN, b3fN, b4fN, b5fN, b6fN, b8fN, b9fN, ekN, evN, Int.toNat_natCast]); (repeat (first | rw [if_pos (by omega)] | rw [if_neg (by omega)])); (try rfl); (all_goals first | rfl | (simp only [a0fN, a1fN, a2fN, a3fN, a4fN, a5fN, a6fN, a8fN, a9fN]; done) | ((repeat' split) <;> first | rfl | (simp only [a0fN, a1fN, a2fN, a3fN, a4fN, a5fN, a6fN, a8fN, a9fN]; done) | (exfalso; omega)))) (by (unfold g_tell); (try dsimp only); (try simp only [efN, b0fN, b1fN, b2fN, b3fN, b4fN, b5fN, b6fN, b8fN, b9fN, ekN, evN, Int.toNat_natCast]); (repeat (first | rw [if_pos (by omega)] | rw [if_neg (by omega)])); exact (setR_put FrS.rf.set hI10))
        · refine r_aload_n (x := some 761) (pc2 := 46) d_M_tell_45 rfl rfl ?_
          refine r_bipush (v := (-32 : Int32)) (pc2 := 48) d_M_tell_46 rfl (by decide) ?_
          refine q_callv (M2 := mi_M_refused) (pc2 := 51) d_M_tell_48 rfl k_M_106 cm_M_refused cv_M_refused (sh_761 hS) (by decide) rfl rfl rfl (Nat.le_of_ble_eq_true rfl) (c_M_refused_0 (I := I) hS hR) (d2 := d - 1) (by omega) (Nat.le_of_eq (Nat.zero_add _)) (Nat.le_of_eq (Nat.zero_add _)) ?_
          obtain ⟨I11, hI11⟩ : ∃ x, x = u2 I 765 0 (I 765 0 + nI 1) := ⟨_, rfl⟩
          rw [← hI11]
          refine Run.ret (some (.int ((-32 : Int32)))) d_M_tell_51 ⟨_, rfl⟩ ?_
          exact RQW.bad 0 (by (unfold o_tell); (try dsimp only); (try simp only [efN, b0fN, b1fN, b2fN, b3fN, b4fN, b5fN, b6fN, b8fN, b9fN, ekN, Int.toNat_natCast]); (repeat (first | rw [if_pos (by omega)] | rw [if_neg (by omega)])); (try rfl); (all_goals first | rfl | (simp only [a0fN, a1fN, a2fN, a3fN, a4fN, a5fN, a6fN, a8fN, a9fN]; done) | ((repeat' split) <;> first | rfl | (simp only [a0fN, a1fN, a2fN, a3fN, a4fN, a5fN, a6fN, a8fN, a9fN]; done) | (exfalso; omega))); (try rfl)) (by (unfold g_tell); (try dsimp only); (try simp only [efN, b0fN, b1fN, b2fN, b3fN, b4fN, b5fN, b6fN, b8fN, b9fN, ekN, Int.toNat_natCast]); (repeat (first | rw [if_pos (by omega)] | rw [if_neg (by omega)])); (try rfl); (all_goals first | rfl | (simp only [a0fN, a1fN, a2fN, a3fN, a4fN, a5fN, a6fN, a8fN, a9fN]; done) | ((repeat' split) <;> first | rfl | (simp only [a0fN, a1fN, a2fN, a3fN, a4fN, a5fN, a6fN, a8fN, a9fN]; done) | (exfalso; omega))); (try rfl)) (by decide) FrS.rf hI11
theorem l_M_drop {d : Nat} {I : Nat → Nat → Int32} {R : Nat → Nat → Option Nat} {L : Nat → Nat → Int64} {sh : Nat → Nat × Nat} {N : Nat} (hS : ShOK sh) (hR : RfOK R) {F r nR : Nat} (hF : F < 12) (hr : r < nR) (hR6 : nR ≤ 6) (hd : 1 ≤ d) {Q : Option Value → HS → Prop} (hk : ∀ J, FrS (setR I 762 (shf (I 762) (174 + 84 * F + (60 + 4 * r)) (174 + 84 * F + (60 + 4 * (nR - 1))) 4)) J → Run mi_M_drop d 0 0 66 [(0, .ref 761), (1, .int (nI F)), (2, .int (nI r)), (3, .int (nI (nR - 1)))] [] (J, R, L, sh, N) Q) : ∀ (n_ : Nat) (k : Nat) (J : Nat → Nat → Int32), 60 + 4 * (nR - 1) - k = n_ → (FrS (setR I 762 (shf (I 762) (174 + 84 * F + (60 + 4 * r)) (174 + 84 * F + k) 4)) J) → (60 + 4 * r ≤ k ∧ k ≤ 60 + 4 * (nR - 1)) → Run mi_M_drop d 0 0 33 [(0, .ref 761), (1, .int (nI F)), (2, .int (nI r)), (3, .int (nI (nR - 1))), (4, .int (nI k))] [] (J, R, L, sh, N) Q := by
  intro n_
  induction n_ using Nat.strongRecOn with | ind n_ ih_ => ?_
  intro k J hn_ v0_ v1_
  refine r_iload (pc2 := 35) d_M_drop_33 rfl rfl ?_
  refine r_bipush (v := nI 60) (pc2 := 37) d_M_drop_35 rfl (by decide) ?_
  refine r_iconst (v := nI 4) (pc2 := 38) d_M_drop_37 rfl (by decide) ?_
  refine r_iload_n (pc2 := 39) d_M_drop_38 rfl rfl ?_
  refine q_imulN (pc2 := 40) d_M_drop_39 rfl ?_
  refine q_iaddN (pc2 := 41) d_M_drop_40 rfl ?_
  refine q_icmp_ge (tgt := 66) (A := ((k : Nat) : Int)) (B := ((60 + (4 * (nR - 1)) : Nat) : Int)) (pc2 := 44) d_M_drop_41 rfl rfl (nI_toInt (by omega)) (nI_toInt (by omega)) (fun c1 => ?_) (fun c1 => ?_)
  · refine Run.sub (l2 := [(0, .ref 761), (1, .int (nI F)), (2, .int (nI r)), (3, .int (nI (nR - 1)))]) ⟨rfl, rfl, rfl, rfl, trivial⟩ ?_
    exact hk J (by rw [show k = 60 + 4 * (nR - 1) by omega] at v0_; exact v0_)
  · refine r_aload_n (x := some 761) (pc2 := 45) d_M_drop_44 rfl rfl ?_
    refine r_iload_n (pc2 := 46) d_M_drop_45 rfl rfl ?_
    refine r_iload (pc2 := 48) d_M_drop_46 rfl rfl ?_
    refine r_aload_n (x := some 761) (pc2 := 49) d_M_drop_48 rfl rfl ?_
    refine r_iload_n (pc2 := 50) d_M_drop_49 rfl rfl ?_
    refine r_iload (pc2 := 52) d_M_drop_50 rfl rfl ?_
    refine r_iconst (v := nI 4) (pc2 := 53) d_M_drop_52 rfl (by decide) ?_
    refine q_iaddN (pc2 := 54) d_M_drop_53 rfl ?_
    refine q_callv (M2 := mi_M_of) (pc2 := 57) d_M_drop_54 rfl k_M_76 cm_M_of cv_M_of (sh_761 hS) (by decide) rfl rfl rfl (Nat.le_of_ble_eq_true rfl) (c_M_of (I := J) (F := F) (W := k + 4) hS hR (by omega)) (d2 := d - 1) (by omega) (Nat.le_of_eq (Nat.zero_add _)) (Nat.le_of_eq (Nat.zero_add _)) ?_
    refine q_top (y := I 762 (174 + 84 * F + (k + 4))) ((congrFun v0_.row2 _).trans (shf_o (by omega))) ?_
    refine q_callvV (M2 := mi_M_is) (pc2 := 60) d_M_drop_57 rfl k_M_157 cm_M_is cv_M_is (sh_761 hS) (by decide) rfl rfl rfl (Nat.le_of_ble_eq_true rfl) (c_M_is (I := J) (F := F) (W := k) (v := I 762 (174 + 84 * F + (k + 4))) hS hR (by omega)) (d2 := d - 1) (by omega) (Nat.le_of_eq (Nat.zero_add _)) (Nat.le_of_eq (Nat.zero_add _)) ?_
    obtain ⟨I2, hI2⟩ : ∃ x, x = u2 J 762 (174 + 84 * F + k) (I 762 (174 + 84 * F + (k + 4))) := ⟨_, rfl⟩
    rw [← hI2]
    refine q_iinc (b := 1) (pc2 := 63) d_M_drop_60 rfl rfl (by decide) (Nat.le_of_ble_eq_true rfl) ?_
    refine r_goto (tgt := 33) d_M_drop_63 rfl ?_
    refine Run.sub (l2 := [(0, .ref 761), (1, .int (nI F)), (2, .int (nI r)), (3, .int (nI (nR - 1))), (4, .int (nI (k + 1)))]) ⟨rfl, rfl, rfl, rfl, rfl, trivial⟩ ?_
    exact ih_ (60 + 4 * (nR - 1) - (k + 1)) (by omega) (k + 1) I2 rfl (setR_shf v0_ hI2 rfl (by omega) (by omega) (by omega)) (by omega)
theorem c_M_drop {d : Nat} {I : Nat → Nat → Int32} {R : Nat → Nat → Option Nat} {L : Nat → Nat → Int64} {sh : Nat → Nat × Nat} {N : Nat} (hS : ShOK sh) (hR : RfOK R) {kA fA cA gA nk nt : Nat} (hT : TRf R sh kA fA cA gA nk) (hTn : TNe kA fA cA gA) (hV : TV (I kA) (I fA) (I cA) nt) (hnt : nt ≤ nk) (hnk : nk ≤ 1000000) {nP nF : Nat} (hW : WFA (I 762) nP nF nt) {rk : Nat → Nat} (hrk : RK (I 762) nF rk) {f : Int32} {s : Int32} (hd : nt + 60 ≤ d) : Mt mi_M_drop d 0 0 [.ref 761, .int f, .int s] (I, R, L, sh, N) (RQW I R L sh N (o_drop (I 762) nF f s) (g_drop (I 762) nF f s)) := by
  obtain ⟨hPc, hP24, hFc, hF12, hWF, hWP⟩ := id hW
  obtain ⟨hn1, hn2, hn3, hn4⟩ := id hTn
  refine Mt.of pn_M (Nat.le_of_ble_eq_true rfl) ?_
  show Run mi_M_drop d 0 0 0 [(0, .ref 761), (1, .int f), (2, .int s)] [] (I, R, L, sh, N) _
  refine r_aload_n (x := some 761) (pc2 := 1) d_M_drop_0 rfl rfl ?_
  refine r_iload_n (pc2 := 2) d_M_drop_1 rfl rfl ?_
  refine r_iload_n (pc2 := 3) d_M_drop_2 rfl rfl ?_
  refine q_callv (M2 := mi_M_isRule) (pc2 := 6) d_M_drop_3 rfl k_M_223 cm_M_isRule cv_M_isRule (sh_761 hS) (by decide) rfl rfl rfl (Nat.le_of_ble_eq_true rfl) (c_M_isRuleW (f := f) (r := s) hS hR hT hTn hV hnt hnk hW (by omega)) (d2 := d - 1) (by omega) (Nat.le_of_eq (Nat.zero_add _)) (Nat.le_of_eq (Nat.zero_add _)) ?_
  refine q_bif_ne (tgt := 16) (pc2 := 9) d_M_drop_6 rfl rfl (fun c1 => ?_) (fun c1 => ?_)
  · obtain ⟨fN, hfN, rfl, efN⟩ := nat_of c1.1
    obtain ⟨tpfN, klfN, skfN, fbfN, nRfN, nNfN, nOfN, frfN, tofN, ⟨a0fN, b0fN, cc0fN, dd0fN⟩, ⟨a1fN, b1fN, cc1fN, dd1fN⟩, ⟨a2fN, b2fN, cc2fN, dd2fN⟩, ⟨a3fN, b3fN, cc3fN, dd3fN⟩, ⟨a4fN, b4fN, cc4fN, dd4fN⟩, ⟨a5fN, b5fN, cc5fN, dd5fN⟩, ⟨a6fN, b6fN, cc6fN, dd6fN⟩, ⟨a8fN, b8fN, cc8fN, dd8fN⟩, ⟨a9fN, b9fN, cc9fN, dd9fN⟩⟩ := wfn (hWF fN hfN)
    obtain ⟨-, -, -, -, -, -, -, w7fN, -, -, wNfN, wRfN, wKfN, wOfN⟩ := hWF fN hfN
    simp only [efN, Int.toNat_natCast, b4fN] at c1
    obtain ⟨sN, hsN, rfl, esN⟩ := nat_of c1.2
    obtain ⟨rtfNsN, rafNsN, rbfNsN, rcfNsN, ⟨t0fNsN, t1fNsN, t2fNsN⟩, ⟨u0fNsN, u1fNsN, u2fNsN⟩, ⟨v0fNsN, v1fNsN, v2fNsN⟩, ⟨x0fNsN, x1fNsN, x2fNsN⟩⟩ := wrn (wRfN sN (by omega))
    refine r_aload_n (x := some 761) (pc2 := 17) d_M_drop_16 rfl rfl ?_
    refine r_iload_n (pc2 := 18) d_M_drop_17 rfl rfl ?_
    refine r_iconst (v := nI 4) (pc2 := 19) d_M_drop_18 rfl (by decide) ?_
    refine q_callv (M2 := mi_M_of) (pc2 := 22) d_M_drop_19 rfl k_M_76 cm_M_of cv_M_of (sh_761 hS) (by decide) rfl rfl rfl (Nat.le_of_ble_eq_true rfl) (c_M_of (I := I) (F := fN) (W := 4) hS hR (by omega)) (d2 := d - 1) (by omega) (Nat.le_of_eq (Nat.zero_add _)) (Nat.le_of_eq (Nat.zero_add _)) ?_
    refine q_top (y := nI nRfN) (a4fN) ?_
    refine r_iconst (v := nI 1) (pc2 := 23) d_M_drop_22 rfl (by decide) ?_
    refine q_isubN (pc2 := 24) d_M_drop_23 rfl (by omega) ?_
    refine r_istore_n (pc2 := 25) d_M_drop_24 rfl rfl (Nat.le_of_ble_eq_true rfl) ?_
    refine r_bipush (v := nI 60) (pc2 := 27) d_M_drop_25 rfl (by decide) ?_
    refine r_iconst (v := nI 4) (pc2 := 28) d_M_drop_27 rfl (by decide) ?_
    refine r_iload_n (pc2 := 29) d_M_drop_28 rfl rfl ?_
    refine q_imulN (pc2 := 30) d_M_drop_29 rfl ?_
    refine q_iaddN (pc2 := 31) d_M_drop_30 rfl ?_
    refine r_istore (pc2 := 33) d_M_drop_31 rfl (Nat.le_of_ble_eq_true rfl) ?_
    refine Run.sub (l2 := [(0, .ref 761), (1, .int (nI fN)), (2, .int (nI sN)), (3, .int (nI (nRfN - 1))), (4, .int (nI (60 + 4 * sN)))]) ⟨rfl, rfl, rfl, rfl, rfl, trivial⟩ ?_
    refine l_M_drop hS hR (F := fN) (r := sN) (nR := nRfN) (by omega) (by omega) (by omega) (by omega) (hk := fun J2 hJ2 => ?_) _ (60 + 4 * sN) I rfl (by rw [shf_0]; exact FrS.rf.set) (by omega)
    have hGJ2 := hJ2.row2
    refine r_aload_n (x := some 761) (pc2 := 67) d_M_drop_66 rfl rfl ?_
    refine r_iload_n (pc2 := 68) d_M_drop_67 rfl rfl ?_
    refine r_iconst (v := nI 4) (pc2 := 69) d_M_drop_68 rfl (by decide) ?_
    refine r_iload_n (pc2 := 70) d_M_drop_69 rfl rfl ?_
    refine q_callvV (M2 := mi_M_is) (pc2 := 73) d_M_drop_70 rfl k_M_157 cm_M_is cv_M_is (sh_761 hS) (by decide) rfl rfl rfl (Nat.le_of_ble_eq_true rfl) (c_M_is (I := J2) (F := fN) (W := 4) (v := nI (nRfN - 1)) hS hR (by omega)) (d2 := d - 1) (by omega) (Nat.le_of_eq (Nat.zero_add _)) (Nat.le_of_eq (Nat.zero_add _)) ?_
    obtain ⟨I3, hI3⟩ : ∃ x, x = u2 J2 762 (174 + 84 * fN + 4) (nI (nRfN - 1)) := ⟨_, rfl⟩
    rw [← hI3]
    refine r_iload_n (pc2 := 74) d_M_drop_73 rfl rfl ?_
    refine Run.ret (some (.int (nI (nRfN - 1)))) d_M_drop_74 ⟨_, rfl⟩ ?_
    exact RQW.val (by (unfold o_drop); (try dsimp only); (try simp only [g_drop1, efN, b0fN, b1fN, b2fN, b3fN, b4fN, b5fN, b6fN, b8fN, b9fN, esN, t1fNsN, u1fNsN, v1fNsN, x1fNsN, Int.toNat_natCast]); (repeat (first | rw [if_pos (by omega)] | rw [if_neg (by omega)])); (try rfl); (all_goals first | rfl | (simp only [a0fN, a1fN, a2fN, a3fN, a4fN, a5fN, a6fN, a8fN, a9fN]; done) | ((repeat' split) <;> first | rfl | (simp only [a0fN, a1fN, a2fN, a3fN, a4fN, a5fN, a6fN, a8fN, a9fN]; done) | (exfalso; omega)))) (by (unfold g_drop); (try dsimp only); (try simp only [g_drop1, efN, b0fN, b1fN, b2fN, b3fN, b4fN, b5fN, b6fN, b8fN, b9fN, esN, t1fNsN, u1fNsN, v1fNsN, x1fNsN, Int.toNat_natCast]); (repeat (first | rw [if_pos (by omega)] | rw [if_neg (by omega)])); exact (setR_put hJ2 hI3))
  · refine r_aload_n (x := some 761) (pc2 := 10) d_M_drop_9 rfl rfl ?_
    refine r_bipush (v := (-32 : Int32)) (pc2 := 12) d_M_drop_10 rfl (by decide) ?_
    refine q_callv (M2 := mi_M_refused) (pc2 := 15) d_M_drop_12 rfl k_M_106 cm_M_refused cv_M_refused (sh_761 hS) (by decide) rfl rfl rfl (Nat.le_of_ble_eq_true rfl) (c_M_refused_0 (I := I) hS hR) (d2 := d - 1) (by omega) (Nat.le_of_eq (Nat.zero_add _)) (Nat.le_of_eq (Nat.zero_add _)) ?_
    obtain ⟨I4, hI4⟩ : ∃ x, x = u2 I 765 0 (I 765 0 + nI 1) := ⟨_, rfl⟩
    rw [← hI4]
    refine Run.ret (some (.int ((-32 : Int32)))) d_M_drop_15 ⟨_, rfl⟩ ?_
    exact RQW.bad 0 (by (unfold o_drop); (try dsimp only); (try simp only [g_drop1, Int.toNat_natCast]); (repeat (first | rw [if_pos (by omega)] | rw [if_neg (by omega)])); (try rfl); (all_goals first | rfl | ((repeat' split) <;> first | rfl | (exfalso; omega))); (try rfl)) (by (unfold g_drop); (try dsimp only); (try simp only [g_drop1, Int.toNat_natCast]); (repeat (first | rw [if_pos (by omega)] | rw [if_neg (by omega)])); (try rfl); (all_goals first | rfl | ((repeat' split) <;> first | rfl | (exfalso; omega))); (try rfl)) (by decide) FrS.rf hI4
theorem c_M_free {d : Nat} {I : Nat → Nat → Int32} {R : Nat → Nat → Option Nat} {L : Nat → Nat → Int64} {sh : Nat → Nat × Nat} {N : Nat} (hS : ShOK sh) (hR : RfOK R) {kA fA cA gA nk nt : Nat} (hT : TRf R sh kA fA cA gA nk) (hTn : TNe kA fA cA gA) (hV : TV (I kA) (I fA) (I cA) nt) (hnt : nt ≤ nk) (hnk : nk ≤ 1000000) {nP nF : Nat} (hW : WFA (I 762) nP nF nt) {rk : Nat → Nat} (hrk : RK (I 762) nF rk) {f : Int32} (hd : nt + 60 ≤ d) : Mt mi_M_free d 0 0 [.ref 761, .int f] (I, R, L, sh, N) (RQW I R L sh N (o_free (I 762) nF f) (g_free (I 762) nF f)) := by
  obtain ⟨hPc, hP24, hFc, hF12, hWF, hWP⟩ := id hW
  obtain ⟨hn1, hn2, hn3, hn4⟩ := id hTn
  refine Mt.of pn_M (Nat.le_of_ble_eq_true rfl) ?_
  show Run mi_M_free d 0 0 0 [(0, .ref 761), (1, .int f)] [] (I, R, L, sh, N) _
  refine r_aload_n (x := some 761) (pc2 := 1) d_M_free_0 rfl rfl ?_
  refine r_iload_n (pc2 := 2) d_M_free_1 rfl rfl ?_
  refine q_callv (M2 := mi_M_isFeature) (pc2 := 5) d_M_free_2 rfl k_M_72 cm_M_isFeature cv_M_isFeature (sh_761 hS) (by decide) rfl rfl rfl (Nat.le_of_ble_eq_true rfl) (c_M_isFeature (I := I) (nF := nF) (f := f) hS hR (hFc) hF12 (by omega)) (d2 := d - 1) (by omega) (Nat.le_of_eq (Nat.zero_add _)) (Nat.le_of_eq (Nat.zero_add _)) ?_
  refine q_bif_ne (tgt := 15) (pc2 := 8) d_M_free_5 rfl rfl (fun c1 => ?_) (fun c1 => ?_)
  · obtain ⟨fN, hfN, rfl, efN⟩ := nat_of c1
    obtain ⟨tpfN, klfN, skfN, fbfN, nRfN, nNfN, nOfN, frfN, tofN, ⟨a0fN, b0fN, cc0fN, dd0fN⟩, ⟨a1fN, b1fN, cc1fN, dd1fN⟩, ⟨a2fN, b2fN, cc2fN, dd2fN⟩, ⟨a3fN, b3fN, cc3fN, dd3fN⟩, ⟨a4fN, b4fN, cc4fN, dd4fN⟩, ⟨a5fN, b5fN, cc5fN, dd5fN⟩, ⟨a6fN, b6fN, cc6fN, dd6fN⟩, ⟨a8fN, b8fN, cc8fN, dd8fN⟩, ⟨a9fN, b9fN, cc9fN, dd9fN⟩⟩ := wfn (hWF fN hfN)
    obtain ⟨-, -, -, -, -, -, -, w7fN, -, -, wNfN, wRfN, wKfN, wOfN⟩ := hWF fN hfN
    refine r_aload_n (x := some 761) (pc2 := 16) d_M_free_15 rfl rfl ?_
    refine r_iload_n (pc2 := 17) d_M_free_16 rfl rfl ?_
    refine r_iconst (v := nI 5) (pc2 := 18) d_M_free_17 rfl (by decide) ?_
    refine q_callv (M2 := mi_M_of) (pc2 := 21) d_M_free_18 rfl k_M_76 cm_M_of cv_M_of (sh_761 hS) (by decide) rfl rfl rfl (Nat.le_of_ble_eq_true rfl) (c_M_of (I := I) (F := fN) (W := 5) hS hR (by omega)) (d2 := d - 1) (by omega) (Nat.le_of_eq (Nat.zero_add _)) (Nat.le_of_eq (Nat.zero_add _)) ?_
    refine q_top (y := nI nNfN) (a5fN) ?_
    refine r_istore_n (pc2 := 22) d_M_free_21 rfl rfl (Nat.le_of_ble_eq_true rfl) ?_
    refine r_aload_n (x := some 761) (pc2 := 23) d_M_free_22 rfl rfl ?_
    refine r_iload_n (pc2 := 24) d_M_free_23 rfl rfl ?_
    refine r_iconst (v := nI 5) (pc2 := 25) d_M_free_24 rfl (by decide) ?_
    refine r_iconst (v := nI 0) (pc2 := 26) d_M_free_25 rfl (by decide) ?_
    refine q_callvV (M2 := mi_M_is) (pc2 := 29) d_M_free_26 rfl k_M_157 cm_M_is cv_M_is (sh_761 hS) (by decide) rfl rfl rfl (Nat.le_of_ble_eq_true rfl) (c_M_is (I := I) (F := fN) (W := 5) (v := nI 0) hS hR (by omega)) (d2 := d - 1) (by omega) (Nat.le_of_eq (Nat.zero_add _)) (Nat.le_of_eq (Nat.zero_add _)) ?_
    obtain ⟨I2, hI2⟩ : ∃ x, x = u2 I 762 (174 + 84 * fN + 5) (nI 0) := ⟨_, rfl⟩
    rw [← hI2]
    refine r_iload_n (pc2 := 30) d_M_free_29 rfl rfl ?_
    refine Run.ret (some (.int (nI nNfN))) d_M_free_30 ⟨_, rfl⟩ ?_
    exact RQW.val (by (unfold o_free); (try dsimp only); (try simp only [efN, b0fN, b1fN, b2fN, b3fN, b4fN, b5fN, b6fN, b8fN, b9fN, Int.toNat_natCast]); (repeat (first | rw [if_pos (by omega)] | rw [if_neg (by omega)])); (try rfl); (all_goals first | rfl | (simp only [a0fN, a1fN, a2fN, a3fN, a4fN, a5fN, a6fN, a8fN, a9fN]; done) | ((repeat' split) <;> first | rfl | (simp only [a0fN, a1fN, a2fN, a3fN, a4fN, a5fN, a6fN, a8fN, a9fN]; done) | (exfalso; omega)))) (by (unfold g_free); (try dsimp only); (try simp only [efN, b0fN, b1fN, b2fN, b3fN, b4fN, b5fN, b6fN, b8fN, b9fN, Int.toNat_natCast]); (repeat (first | rw [if_pos (by omega)] | rw [if_neg (by omega)])); exact (setR_put FrS.rf.set hI2))
  · refine r_aload_n (x := some 761) (pc2 := 9) d_M_free_8 rfl rfl ?_
    refine r_bipush (v := (-32 : Int32)) (pc2 := 11) d_M_free_9 rfl (by decide) ?_
    refine q_callv (M2 := mi_M_refused) (pc2 := 14) d_M_free_11 rfl k_M_106 cm_M_refused cv_M_refused (sh_761 hS) (by decide) rfl rfl rfl (Nat.le_of_ble_eq_true rfl) (c_M_refused_0 (I := I) hS hR) (d2 := d - 1) (by omega) (Nat.le_of_eq (Nat.zero_add _)) (Nat.le_of_eq (Nat.zero_add _)) ?_
    obtain ⟨I3, hI3⟩ : ∃ x, x = u2 I 765 0 (I 765 0 + nI 1) := ⟨_, rfl⟩
    rw [← hI3]
    refine Run.ret (some (.int ((-32 : Int32)))) d_M_free_14 ⟨_, rfl⟩ ?_
    exact RQW.bad 0 (by (unfold o_free); (try dsimp only); (try simp only [Int.toNat_natCast]); (repeat (first | rw [if_pos (by omega)] | rw [if_neg (by omega)])); (try rfl); (all_goals first | rfl | ((repeat' split) <;> first | rfl | (exfalso; omega))); (try rfl)) (by (unfold g_free); (try dsimp only); (try simp only [Int.toNat_natCast]); (repeat (first | rw [if_pos (by omega)] | rw [if_neg (by omega)])); (try rfl); (all_goals first | rfl | ((repeat' split) <;> first | rfl | (exfalso; omega))); (try rfl)) (by decide) FrS.rf hI3
theorem c_M_seed {d : Nat} {I : Nat → Nat → Int32} {R : Nat → Nat → Option Nat} {L : Nat → Nat → Int64} {sh : Nat → Nat × Nat} {N : Nat} (hS : ShOK sh) (hR : RfOK R) {kA fA cA gA nk nt : Nat} (hT : TRf R sh kA fA cA gA nk) (hTn : TNe kA fA cA gA) (hV : TV (I kA) (I fA) (I cA) nt) (hnt : nt ≤ nk) (hnk : nk ≤ 1000000) {nP nF : Nat} (hW : WFA (I 762) nP nF nt) {rk : Nat → Nat} (hrk : RK (I 762) nF rk) {v : Int32} (hd : nt + 60 ≤ d) : Mt mi_M_seed d 0 0 [.ref 761, .int v] (I, R, L, sh, N) (RQW I R L sh N (o_seed (I 762)) (g_seed (I 762) v)) := by
  obtain ⟨hPc, hP24, hFc, hF12, hWF, hWP⟩ := id hW
  obtain ⟨hn1, hn2, hn3, hn4⟩ := id hTn
  refine Mt.of pn_M (Nat.le_of_ble_eq_true rfl) ?_
  show Run mi_M_seed d 0 0 0 [(0, .ref 761), (1, .int v)] [] (I, R, L, sh, N) _
  refine r_aload_n (x := some 761) (pc2 := 1) d_M_seed_0 rfl rfl ?_
  refine q_getR (x := some 762) (pc2 := 4) d_M_seed_1 rfl k_M_9 rfl (sh_761 hS) (rf_761_0 hR) ?_
  refine r_iconst (v := nI 5) (pc2 := 5) d_M_seed_4 rfl (by decide) ?_
  refine q_iaload (q := 5) (x := I 762 5) (pc2 := 6) d_M_seed_5 rfl (sh_762 hS) (nI_toInt (by omega)) (by omega) rfl ?_
  refine r_istore_n (pc2 := 7) d_M_seed_6 rfl rfl (Nat.le_of_ble_eq_true rfl) ?_
  refine r_aload_n (x := some 761) (pc2 := 8) d_M_seed_7 rfl rfl ?_
  refine q_getR (x := some 762) (pc2 := 11) d_M_seed_8 rfl k_M_9 rfl (sh_761 hS) (rf_761_0 hR) ?_
  refine r_iconst (v := nI 5) (pc2 := 12) d_M_seed_11 rfl (by decide) ?_
  refine r_iload_n (pc2 := 13) d_M_seed_12 rfl rfl ?_
  refine q_iastore (q := 5) (pc2 := 14) d_M_seed_13 rfl (sh_762 hS) (nI_toInt (by omega)) (by omega) (fun I1 hI1 => ?_)
  refine r_iload_n (pc2 := 15) d_M_seed_14 rfl rfl ?_
  refine Run.ret (some (.int (I 762 5))) d_M_seed_15 ⟨_, rfl⟩ ?_
  exact RQW.val (by (unfold o_seed); (try dsimp only); (try simp only [Int.toNat_natCast]); (repeat (first | rw [if_pos (by omega)] | rw [if_neg (by omega)])); (try rfl); (all_goals first | rfl | ((repeat' split) <;> first | rfl | (exfalso; omega)))) (by (unfold g_seed); (try dsimp only); (try simp only [Int.toNat_natCast]); (repeat (first | rw [if_pos (by omega)] | rw [if_neg (by omega)])); exact (setR_put FrS.rf.set hI1))
theorem c_M_step {d : Nat} {I : Nat → Nat → Int32} {R : Nat → Nat → Option Nat} {L : Nat → Nat → Int64} {sh : Nat → Nat × Nat} {N : Nat} (hS : ShOK sh) (hR : RfOK R) {kA fA cA gA nk nt : Nat} (hT : TRf R sh kA fA cA gA nk) (hTn : TNe kA fA cA gA) (hV : TV (I kA) (I fA) (I cA) nt) (hnt : nt ≤ nk) (hnk : nk ≤ 1000000) {nP nF : Nat} (hW : WFA (I 762) nP nF nt) {rk : Nat → Nat} (hrk : RK (I 762) nF rk) {t : Int32} {f : Int32} {s : Int32} {k : Int32} {q : Int32} {nS : Nat} (hNS : I 762 2 = nI nS) (hNS24 : nS ≤ 24) (hd : nt + 60 ≤ d) : Mt mi_M_step d 0 0 [.ref 761, .int t, .int f, .int s, .int k, .int q] (I, R, L, sh, N) (RQW I R L sh N (o_step (I 762) nF t f s k q) (g_step (I 762) nF t f s k q)) := by
  obtain ⟨hPc, hP24, hFc, hF12, hWF, hWP⟩ := id hW
  obtain ⟨hn1, hn2, hn3, hn4⟩ := id hTn
  refine Mt.of pn_M (Nat.le_of_ble_eq_true rfl) ?_
  show Run mi_M_step d 0 0 0 [(0, .ref 761), (1, .int t), (2, .int f), (3, .int s), (4, .int k), (5, .int q)] [] (I, R, L, sh, N) _
  have bNS : (I 762 2).toInt = (nS : Int) := by rw [hNS, nI_toInt (by omega)]
  refine r_iload_n (pc2 := 1) d_M_step_0 rfl rfl ?_
  refine r_i2l (pc2 := 2) d_M_step_1 rfl ?_
  refine r_aload_n (x := some 761) (pc2 := 3) d_M_step_2 rfl rfl ?_
  refine q_getR (x := some 762) (pc2 := 6) d_M_step_3 rfl k_M_9 rfl (sh_761 hS) (rf_761_0 hR) ?_
  refine r_iconst (v := nI 3) (pc2 := 7) d_M_step_6 rfl (by decide) ?_
  refine q_iaload (q := 3) (x := I 762 3) (pc2 := 8) d_M_step_7 rfl (sh_762 hS) (nI_toInt (by omega)) (by omega) rfl ?_
  refine r_i2l (pc2 := 9) d_M_step_8 rfl ?_
  refine r_ldc2 (pc2 := 12) d_M_step_9 rfl k_M_242 ?_
  refine q_calls (M2 := mi_M_in) (pc2 := 15) d_M_step_12 rfl k_M_68 cm_M_in cs_M_in rfl rfl (Nat.le_of_ble_eq_true rfl) (c_M_in (A := t.toInt) (B := (I 762 3).toInt) (C := (1000000 : Int)) (toInt64_toInt (rfl)) (toInt64_toInt (rfl)) (by decide)) (d2 := d - 1) (by omega) (Nat.le_of_eq (Nat.zero_add _)) (Nat.le_of_eq (Nat.zero_add _)) ?_
  refine q_bif_eq (tgt := 68) (pc2 := 18) d_M_step_15 rfl rfl (fun c1 => ?_) (fun c1 => ?_)
  · refine r_aload_n (x := some 761) (pc2 := 69) d_M_step_68 rfl rfl ?_
    refine r_bipush (v := (-32 : Int32)) (pc2 := 71) d_M_step_69 rfl (by decide) ?_
    refine q_callv (M2 := mi_M_refused) (pc2 := 74) d_M_step_71 rfl k_M_106 cm_M_refused cv_M_refused (sh_761 hS) (by decide) rfl rfl rfl (Nat.le_of_ble_eq_true rfl) (c_M_refused_0 (I := I) hS hR) (d2 := d - 1) (by omega) (Nat.le_of_eq (Nat.zero_add _)) (Nat.le_of_eq (Nat.zero_add _)) ?_
    obtain ⟨I2, hI2⟩ : ∃ x, x = u2 I 765 0 (I 765 0 + nI 1) := ⟨_, rfl⟩
    rw [← hI2]
    refine Run.ret (some (.int ((-32 : Int32)))) d_M_step_74 ⟨_, rfl⟩ ?_
    exact RQW.bad 0 (by (unfold o_step); (try dsimp only); (try simp only [bNS, g_step1, Int.toNat_natCast]); (repeat (first | rw [if_pos (by omega)] | rw [if_neg (by omega)])); (try rfl); (all_goals first | rfl | ((repeat' split) <;> first | rfl | (exfalso; omega))); (try rfl)) (by (unfold g_step); (try dsimp only); (try simp only [bNS, g_step1, Int.toNat_natCast]); (repeat (first | rw [if_pos (by omega)] | rw [if_neg (by omega)])); (try rfl); (all_goals first | rfl | ((repeat' split) <;> first | rfl | (exfalso; omega))); (try rfl)) (by decide) FrS.rf hI2
  · refine r_aload_n (x := some 761) (pc2 := 19) d_M_step_18 rfl rfl ?_
    refine r_iload_n (pc2 := 20) d_M_step_19 rfl rfl ?_
    refine q_callv (M2 := mi_M_isFeature) (pc2 := 23) d_M_step_20 rfl k_M_72 cm_M_isFeature cv_M_isFeature (sh_761 hS) (by decide) rfl rfl rfl (Nat.le_of_ble_eq_true rfl) (c_M_isFeature (I := I) (nF := nF) (f := f) hS hR (hFc) hF12 (by omega)) (d2 := d - 1) (by omega) (Nat.le_of_eq (Nat.zero_add _)) (Nat.le_of_eq (Nat.zero_add _)) ?_
    refine q_bif_eq (tgt := 68) (pc2 := 26) d_M_step_23 rfl rfl (fun c3 => ?_) (fun c3 => ?_)
    · refine r_aload_n (x := some 761) (pc2 := 69) d_M_step_68 rfl rfl ?_
      refine r_bipush (v := (-32 : Int32)) (pc2 := 71) d_M_step_69 rfl (by decide) ?_
      refine q_callv (M2 := mi_M_refused) (pc2 := 74) d_M_step_71 rfl k_M_106 cm_M_refused cv_M_refused (sh_761 hS) (by decide) rfl rfl rfl (Nat.le_of_ble_eq_true rfl) (c_M_refused_0 (I := I) hS hR) (d2 := d - 1) (by omega) (Nat.le_of_eq (Nat.zero_add _)) (Nat.le_of_eq (Nat.zero_add _)) ?_
      obtain ⟨I4, hI4⟩ : ∃ x, x = u2 I 765 0 (I 765 0 + nI 1) := ⟨_, rfl⟩
      rw [← hI4]
      refine Run.ret (some (.int ((-32 : Int32)))) d_M_step_74 ⟨_, rfl⟩ ?_
      exact RQW.bad 0 (by (unfold o_step); (try dsimp only); (try simp only [bNS, g_step1, Int.toNat_natCast]); (repeat (first | rw [if_pos (by omega)] | rw [if_neg (by omega)])); (try rfl); (all_goals first | rfl | ((repeat' split) <;> first | rfl | (exfalso; omega))); (try rfl)) (by (unfold g_step); (try dsimp only); (try simp only [bNS, g_step1, Int.toNat_natCast]); (repeat (first | rw [if_pos (by omega)] | rw [if_neg (by omega)])); (try rfl); (all_goals first | rfl | ((repeat' split) <;> first | rfl | (exfalso; omega))); (try rfl)) (by decide) FrS.rf hI4
    · obtain ⟨fN, hfN, rfl, efN⟩ := nat_of c3
      obtain ⟨tpfN, klfN, skfN, fbfN, nRfN, nNfN, nOfN, frfN, tofN, ⟨a0fN, b0fN, cc0fN, dd0fN⟩, ⟨a1fN, b1fN, cc1fN, dd1fN⟩, ⟨a2fN, b2fN, cc2fN, dd2fN⟩, ⟨a3fN, b3fN, cc3fN, dd3fN⟩, ⟨a4fN, b4fN, cc4fN, dd4fN⟩, ⟨a5fN, b5fN, cc5fN, dd5fN⟩, ⟨a6fN, b6fN, cc6fN, dd6fN⟩, ⟨a8fN, b8fN, cc8fN, dd8fN⟩, ⟨a9fN, b9fN, cc9fN, dd9fN⟩⟩ := wfn (hWF fN hfN)
      obtain ⟨-, -, -, -, -, -, -, w7fN, -, -, wNfN, wRfN, wKfN, wOfN⟩ := hWF fN hfN
      refine r_iload_n (pc2 := 27) d_M_step_26 rfl rfl ?_
      refine r_i2l (pc2 := 28) d_M_step_27 rfl ?_
      refine r_lconst (v := (0 : Int64)) (pc2 := 29) d_M_step_28 rfl (by decide) ?_
      refine r_ldc2 (pc2 := 32) d_M_step_29 rfl k_M_244 ?_
      refine q_calls (M2 := mi_M_in) (pc2 := 35) d_M_step_32 rfl k_M_68 cm_M_in cs_M_in rfl rfl (Nat.le_of_ble_eq_true rfl) (c_M_in (A := s.toInt) (B := (0 : Int)) (C := (5 : Int)) (toInt64_toInt (rfl)) (by decide) (by decide)) (d2 := d - 1) (by omega) (Nat.le_of_eq (Nat.zero_add _)) (Nat.le_of_eq (Nat.zero_add _)) ?_
      refine q_bif_eq (tgt := 68) (pc2 := 38) d_M_step_35 rfl rfl (fun c5 => ?_) (fun c5 => ?_)
      · refine r_aload_n (x := some 761) (pc2 := 69) d_M_step_68 rfl rfl ?_
        refine r_bipush (v := (-32 : Int32)) (pc2 := 71) d_M_step_69 rfl (by decide) ?_
        refine q_callv (M2 := mi_M_refused) (pc2 := 74) d_M_step_71 rfl k_M_106 cm_M_refused cv_M_refused (sh_761 hS) (by decide) rfl rfl rfl (Nat.le_of_ble_eq_true rfl) (c_M_refused_0 (I := I) hS hR) (d2 := d - 1) (by omega) (Nat.le_of_eq (Nat.zero_add _)) (Nat.le_of_eq (Nat.zero_add _)) ?_
        obtain ⟨I6, hI6⟩ : ∃ x, x = u2 I 765 0 (I 765 0 + nI 1) := ⟨_, rfl⟩
        rw [← hI6]
        refine Run.ret (some (.int ((-32 : Int32)))) d_M_step_74 ⟨_, rfl⟩ ?_
        exact RQW.bad 0 (by (unfold o_step); (try dsimp only); (try simp only [bNS, g_step1, efN, b0fN, b1fN, b2fN, b3fN, b4fN, b5fN, b6fN, b8fN, b9fN, Int.toNat_natCast]); (repeat (first | rw [if_pos (by omega)] | rw [if_neg (by omega)])); (try rfl); (all_goals first | rfl | (simp only [a0fN, a1fN, a2fN, a3fN, a4fN, a5fN, a6fN, a8fN, a9fN]; done) | ((repeat' split) <;> first | rfl | (simp only [a0fN, a1fN, a2fN, a3fN, a4fN, a5fN, a6fN, a8fN, a9fN]; done) | (exfalso; omega))); (try rfl)) (by (unfold g_step); (try dsimp only); (try simp only [bNS, g_step1, efN, b0fN, b1fN, b2fN, b3fN, b4fN, b5fN, b6fN, b8fN, b9fN, Int.toNat_natCast]); (repeat (first | rw [if_pos (by omega)] | rw [if_neg (by omega)])); (try rfl); (all_goals first | rfl | (simp only [a0fN, a1fN, a2fN, a3fN, a4fN, a5fN, a6fN, a8fN, a9fN]; done) | ((repeat' split) <;> first | rfl | (simp only [a0fN, a1fN, a2fN, a3fN, a4fN, a5fN, a6fN, a8fN, a9fN]; done) | (exfalso; omega))); (try rfl)) (by decide) FrS.rf hI6
      · obtain ⟨sN, hsN, gsN, rfl, esN⟩ := nat_of' (show (0 : Int) ≤ (0 : Int) by decide) c5
        refine r_iload (pc2 := 40) d_M_step_38 rfl rfl ?_
        refine r_i2l (pc2 := 41) d_M_step_40 rfl ?_
        refine r_lconst (v := (1 : Int64)) (pc2 := 42) d_M_step_41 rfl (by decide) ?_
        refine r_aload_n (x := some 761) (pc2 := 43) d_M_step_42 rfl rfl ?_
        refine r_iload_n (pc2 := 44) d_M_step_43 rfl rfl ?_
        refine r_iconst (v := nI 0) (pc2 := 45) d_M_step_44 rfl (by decide) ?_
        refine q_callv (M2 := mi_M_of) (pc2 := 48) d_M_step_45 rfl k_M_76 cm_M_of cv_M_of (sh_761 hS) (by decide) rfl rfl rfl (Nat.le_of_ble_eq_true rfl) (c_M_of (I := I) (F := fN) (W := 0) hS hR (by omega)) (d2 := d - 1) (by omega) (Nat.le_of_eq (Nat.zero_add _)) (Nat.le_of_eq (Nat.zero_add _)) ?_
        refine q_top (y := nI tpfN) (a0fN) ?_
        refine r_i2l (pc2 := 49) d_M_step_48 rfl ?_
        refine q_calls (M2 := mi_M_in) (pc2 := 52) d_M_step_49 rfl k_M_68 cm_M_in cs_M_in rfl rfl (Nat.le_of_ble_eq_true rfl) (c_M_in (A := k.toInt) (B := (1 : Int)) (C := ((tpfN : Nat) : Int)) (toInt64_toInt (rfl)) (by decide) (toInt64_toInt (nI_toInt (by omega)))) (d2 := d - 1) (by omega) (Nat.le_of_eq (Nat.zero_add _)) (Nat.le_of_eq (Nat.zero_add _)) ?_
        refine q_bif_eq (tgt := 68) (pc2 := 55) d_M_step_52 rfl rfl (fun c7 => ?_) (fun c7 => ?_)
        · refine r_aload_n (x := some 761) (pc2 := 69) d_M_step_68 rfl rfl ?_
          refine r_bipush (v := (-32 : Int32)) (pc2 := 71) d_M_step_69 rfl (by decide) ?_
          refine q_callv (M2 := mi_M_refused) (pc2 := 74) d_M_step_71 rfl k_M_106 cm_M_refused cv_M_refused (sh_761 hS) (by decide) rfl rfl rfl (Nat.le_of_ble_eq_true rfl) (c_M_refused_0 (I := I) hS hR) (d2 := d - 1) (by omega) (Nat.le_of_eq (Nat.zero_add _)) (Nat.le_of_eq (Nat.zero_add _)) ?_
          obtain ⟨I8, hI8⟩ : ∃ x, x = u2 I 765 0 (I 765 0 + nI 1) := ⟨_, rfl⟩
          rw [← hI8]
          refine Run.ret (some (.int ((-32 : Int32)))) d_M_step_74 ⟨_, rfl⟩ ?_
          exact RQW.bad 0 (by (unfold o_step); (try dsimp only); (try simp only [bNS, g_step1, efN, b0fN, b1fN, b2fN, b3fN, b4fN, b5fN, b6fN, b8fN, b9fN, esN, Int.toNat_natCast]); (repeat (first | rw [if_pos (by omega)] | rw [if_neg (by omega)])); (try rfl); (all_goals first | rfl | (simp only [a0fN, a1fN, a2fN, a3fN, a4fN, a5fN, a6fN, a8fN, a9fN]; done) | ((repeat' split) <;> first | rfl | (simp only [a0fN, a1fN, a2fN, a3fN, a4fN, a5fN, a6fN, a8fN, a9fN]; done) | (exfalso; omega))); (try rfl)) (by (unfold g_step); (try dsimp only); (try simp only [bNS, g_step1, efN, b0fN, b1fN, b2fN, b3fN, b4fN, b5fN, b6fN, b8fN, b9fN, esN, Int.toNat_natCast]); (repeat (first | rw [if_pos (by omega)] | rw [if_neg (by omega)])); (try rfl); (all_goals first | rfl | (simp only [a0fN, a1fN, a2fN, a3fN, a4fN, a5fN, a6fN, a8fN, a9fN]; done) | ((repeat' split) <;> first | rfl | (simp only [a0fN, a1fN, a2fN, a3fN, a4fN, a5fN, a6fN, a8fN, a9fN]; done) | (exfalso; omega))); (try rfl)) (by decide) FrS.rf hI8
        · obtain ⟨kN, hkN, gkN, rfl, ekN⟩ := nat_of' (show (0 : Int) ≤ (1 : Int) by decide) c7
          refine r_iload (pc2 := 57) d_M_step_55 rfl rfl ?_
          refine r_i2l (pc2 := 58) d_M_step_57 rfl ?_
          refine r_lconst (v := (0 : Int64)) (pc2 := 59) d_M_step_58 rfl (by decide) ?_
          refine r_ldc2 (pc2 := 62) d_M_step_59 rfl k_M_226 ?_
          refine q_calls (M2 := mi_M_in) (pc2 := 65) d_M_step_62 rfl k_M_68 cm_M_in cs_M_in rfl rfl (Nat.le_of_ble_eq_true rfl) (c_M_in (A := q.toInt) (B := (0 : Int)) (C := (333 : Int)) (toInt64_toInt (rfl)) (by decide) (by decide)) (d2 := d - 1) (by omega) (Nat.le_of_eq (Nat.zero_add _)) (Nat.le_of_eq (Nat.zero_add _)) ?_
          refine q_bif_ne (tgt := 75) (pc2 := 68) d_M_step_65 rfl rfl (fun c9 => ?_) (fun c9 => ?_)
          · obtain ⟨qN, hqN, gqN, rfl, eqN⟩ := nat_of' (show (0 : Int) ≤ (0 : Int) by decide) c9
            refine r_aload_n (x := some 761) (pc2 := 76) d_M_step_75 rfl rfl ?_
            refine q_getR (x := some 762) (pc2 := 79) d_M_step_76 rfl k_M_9 rfl (sh_761 hS) (rf_761_0 hR) ?_
            refine r_iconst (v := nI 2) (pc2 := 80) d_M_step_79 rfl (by decide) ?_
            refine q_iaload (q := 2) (x := nI nS) (pc2 := 81) d_M_step_80 rfl (sh_762 hS) (nI_toInt (by omega)) (by omega) hNS ?_
            refine r_istore (pc2 := 83) d_M_step_81 rfl (Nat.le_of_ble_eq_true rfl) ?_
            refine r_iload (pc2 := 85) d_M_step_83 rfl rfl ?_
            refine r_bipush (v := nI 24) (pc2 := 87) d_M_step_85 rfl (by decide) ?_
            refine q_icmp_ne (tgt := 97) (A := ((nS : Nat) : Int)) (B := (24 : Int)) (pc2 := 90) d_M_step_87 rfl rfl (nI_toInt (by omega)) (nI_toInt (by omega)) (fun c10 => ?_) (fun c10 => ?_)
            · refine r_bipush (v := nI 54) (pc2 := 99) d_M_step_97 rfl (by decide) ?_
              refine r_iconst (v := nI 5) (pc2 := 100) d_M_step_99 rfl (by decide) ?_
              refine r_iload (pc2 := 102) d_M_step_100 rfl rfl ?_
              refine q_imulN (pc2 := 103) d_M_step_102 rfl ?_
              refine q_iaddN (pc2 := 104) d_M_step_103 rfl ?_
              refine r_istore (pc2 := 106) d_M_step_104 rfl (Nat.le_of_ble_eq_true rfl) ?_
              refine r_aload_n (x := some 761) (pc2 := 107) d_M_step_106 rfl rfl ?_
              refine q_getR (x := some 762) (pc2 := 110) d_M_step_107 rfl k_M_9 rfl (sh_761 hS) (rf_761_0 hR) ?_
              refine r_iload (pc2 := 112) d_M_step_110 rfl rfl ?_
              refine r_iload_n (pc2 := 113) d_M_step_112 rfl rfl ?_
              refine q_iastore (q := 54 + 5 * nS) (pc2 := 114) d_M_step_113 rfl (sh_762 hS) (nI_toInt (by omega)) (by omega) (fun I11 hI11 => ?_)
              refine r_aload_n (x := some 761) (pc2 := 115) d_M_step_114 rfl rfl ?_
              refine q_getR (x := some 762) (pc2 := 118) d_M_step_115 rfl k_M_9 rfl (sh_761 hS) (rf_761_0 hR) ?_
              refine r_iload (pc2 := 120) d_M_step_118 rfl rfl ?_
              refine r_iconst (v := nI 1) (pc2 := 121) d_M_step_120 rfl (by decide) ?_
              refine q_iaddN (pc2 := 122) d_M_step_121 rfl ?_
              refine r_iload_n (pc2 := 123) d_M_step_122 rfl rfl ?_
              refine q_iastore (q := 54 + 5 * nS + 1) (pc2 := 124) d_M_step_123 rfl (sh_762 hS) (nI_toInt (by omega)) (by omega) (fun I12 hI12 => ?_)
              refine r_aload_n (x := some 761) (pc2 := 125) d_M_step_124 rfl rfl ?_
              refine q_getR (x := some 762) (pc2 := 128) d_M_step_125 rfl k_M_9 rfl (sh_761 hS) (rf_761_0 hR) ?_
              refine r_iload (pc2 := 130) d_M_step_128 rfl rfl ?_
              refine r_iconst (v := nI 2) (pc2 := 131) d_M_step_130 rfl (by decide) ?_
              refine q_iaddN (pc2 := 132) d_M_step_131 rfl ?_
              refine r_iload_n (pc2 := 133) d_M_step_132 rfl rfl ?_
              refine q_iastore (q := 54 + 5 * nS + 2) (pc2 := 134) d_M_step_133 rfl (sh_762 hS) (nI_toInt (by omega)) (by omega) (fun I13 hI13 => ?_)
              refine r_aload_n (x := some 761) (pc2 := 135) d_M_step_134 rfl rfl ?_
              refine q_getR (x := some 762) (pc2 := 138) d_M_step_135 rfl k_M_9 rfl (sh_761 hS) (rf_761_0 hR) ?_
              refine r_iload (pc2 := 140) d_M_step_138 rfl rfl ?_
              refine r_iconst (v := nI 3) (pc2 := 141) d_M_step_140 rfl (by decide) ?_
              refine q_iaddN (pc2 := 142) d_M_step_141 rfl ?_
              refine r_iload (pc2 := 144) d_M_step_142 rfl rfl ?_
              refine q_iastore (q := 54 + 5 * nS + 3) (pc2 := 145) d_M_step_144 rfl (sh_762 hS) (nI_toInt (by omega)) (by omega) (fun I14 hI14 => ?_)
              refine r_aload_n (x := some 761) (pc2 := 146) d_M_step_145 rfl rfl ?_
              refine q_getR (x := some 762) (pc2 := 149) d_M_step_146 rfl k_M_9 rfl (sh_761 hS) (rf_761_0 hR) ?_
              refine r_iload (pc2 := 151) d_M_step_149 rfl rfl ?_
              refine r_iconst (v := nI 4) (pc2 := 152) d_M_step_151 rfl (by decide) ?_
              refine q_iaddN (pc2 := 153) d_M_step_152 rfl ?_
              refine r_iload (pc2 := 155) d_M_step_153 rfl rfl ?_
              refine q_iastore (q := 54 + 5 * nS + 4) (pc2 := 156) d_M_step_155 rfl (sh_762 hS) (nI_toInt (by omega)) (by omega) (fun I15 hI15 => ?_)
              refine r_aload_n (x := some 761) (pc2 := 157) d_M_step_156 rfl rfl ?_
              refine q_getR (x := some 762) (pc2 := 160) d_M_step_157 rfl k_M_9 rfl (sh_761 hS) (rf_761_0 hR) ?_
              refine r_iconst (v := nI 2) (pc2 := 161) d_M_step_160 rfl (by decide) ?_
              refine r_iload (pc2 := 163) d_M_step_161 rfl rfl ?_
              refine r_iconst (v := nI 1) (pc2 := 164) d_M_step_163 rfl (by decide) ?_
              refine q_iaddN (pc2 := 165) d_M_step_164 rfl ?_
              refine q_iastore (q := 2) (pc2 := 166) d_M_step_165 rfl (sh_762 hS) (nI_toInt (by omega)) (by omega) (fun I16 hI16 => ?_)
              refine r_iload (pc2 := 168) d_M_step_166 rfl rfl ?_
              refine r_iconst (v := nI 1) (pc2 := 169) d_M_step_168 rfl (by decide) ?_
              refine q_iaddN (pc2 := 170) d_M_step_169 rfl ?_
              refine Run.ret (some (.int (nI (nS + 1)))) d_M_step_170 ⟨_, rfl⟩ ?_
              exact RQW.val (by (unfold o_step); (try dsimp only); (try simp only [bNS, g_step1, efN, b0fN, b1fN, b2fN, b3fN, b4fN, b5fN, b6fN, b8fN, b9fN, esN, ekN, eqN, Int.toNat_natCast]); (repeat (first | rw [if_pos (by omega)] | rw [if_neg (by omega)])); (try rfl); (all_goals first | rfl | (simp only [a0fN, a1fN, a2fN, a3fN, a4fN, a5fN, a6fN, a8fN, a9fN]; done) | ((repeat' split) <;> first | rfl | (simp only [a0fN, a1fN, a2fN, a3fN, a4fN, a5fN, a6fN, a8fN, a9fN]; done) | (exfalso; omega)))) (by (unfold g_step); (try dsimp only); (try simp only [bNS, g_step1, efN, b0fN, b1fN, b2fN, b3fN, b4fN, b5fN, b6fN, b8fN, b9fN, esN, ekN, eqN, Int.toNat_natCast]); (repeat (first | rw [if_pos (by omega)] | rw [if_neg (by omega)])); exact (setR_put (setR_put (setR_put (setR_put (setR_put (setR_put FrS.rf.set hI11) hI12) hI13) hI14) hI15) hI16))
            · refine r_aload_n (x := some 761) (pc2 := 91) d_M_step_90 rfl rfl ?_
              refine r_bipush (v := (-36 : Int32)) (pc2 := 93) d_M_step_91 rfl (by decide) ?_
              refine q_callv (M2 := mi_M_refused) (pc2 := 96) d_M_step_93 rfl k_M_106 cm_M_refused cv_M_refused (sh_761 hS) (by decide) rfl rfl rfl (Nat.le_of_ble_eq_true rfl) (c_M_refused_4 (I := I) hS hR) (d2 := d - 1) (by omega) (Nat.le_of_eq (Nat.zero_add _)) (Nat.le_of_eq (Nat.zero_add _)) ?_
              obtain ⟨I17, hI17⟩ : ∃ x, x = u2 I 765 4 (I 765 4 + nI 1) := ⟨_, rfl⟩
              rw [← hI17]
              refine Run.ret (some (.int ((-36 : Int32)))) d_M_step_96 ⟨_, rfl⟩ ?_
              exact RQW.bad 4 (by (unfold o_step); (try dsimp only); (try simp only [bNS, g_step1, efN, b0fN, b1fN, b2fN, b3fN, b4fN, b5fN, b6fN, b8fN, b9fN, esN, ekN, eqN, Int.toNat_natCast]); (repeat (first | rw [if_pos (by omega)] | rw [if_neg (by omega)])); (try rfl); (all_goals first | rfl | (simp only [a0fN, a1fN, a2fN, a3fN, a4fN, a5fN, a6fN, a8fN, a9fN]; done) | ((repeat' split) <;> first | rfl | (simp only [a0fN, a1fN, a2fN, a3fN, a4fN, a5fN, a6fN, a8fN, a9fN]; done) | (exfalso; omega))); (try rfl)) (by (unfold g_step); (try dsimp only); (try simp only [bNS, g_step1, efN, b0fN, b1fN, b2fN, b3fN, b4fN, b5fN, b6fN, b8fN, b9fN, esN, ekN, eqN, Int.toNat_natCast]); (repeat (first | rw [if_pos (by omega)] | rw [if_neg (by omega)])); (try rfl); (all_goals first | rfl | (simp only [a0fN, a1fN, a2fN, a3fN, a4fN, a5fN, a6fN, a8fN, a9fN]; done) | ((repeat' split) <;> first | rfl | (simp only [a0fN, a1fN, a2fN, a3fN, a4fN, a5fN, a6fN, a8fN, a9fN]; done) | (exfalso; omega))); (try rfl)) (by decide) FrS.rf hI17
          · refine r_aload_n (x := some 761) (pc2 := 69) d_M_step_68 rfl rfl ?_
            refine r_bipush (v := (-32 : Int32)) (pc2 := 71) d_M_step_69 rfl (by decide) ?_
            refine q_callv (M2 := mi_M_refused) (pc2 := 74) d_M_step_71 rfl k_M_106 cm_M_refused cv_M_refused (sh_761 hS) (by decide) rfl rfl rfl (Nat.le_of_ble_eq_true rfl) (c_M_refused_0 (I := I) hS hR) (d2 := d - 1) (by omega) (Nat.le_of_eq (Nat.zero_add _)) (Nat.le_of_eq (Nat.zero_add _)) ?_
            obtain ⟨I18, hI18⟩ : ∃ x, x = u2 I 765 0 (I 765 0 + nI 1) := ⟨_, rfl⟩
            rw [← hI18]
            refine Run.ret (some (.int ((-32 : Int32)))) d_M_step_74 ⟨_, rfl⟩ ?_
            exact RQW.bad 0 (by (unfold o_step); (try dsimp only); (try simp only [bNS, g_step1, efN, b0fN, b1fN, b2fN, b3fN, b4fN, b5fN, b6fN, b8fN, b9fN, esN, ekN, Int.toNat_natCast]); (repeat (first | rw [if_pos (by omega)] | rw [if_neg (by omega)])); (try rfl); (all_goals first | rfl | (simp only [a0fN, a1fN, a2fN, a3fN, a4fN, a5fN, a6fN, a8fN, a9fN]; done) | ((repeat' split) <;> first | rfl | (simp only [a0fN, a1fN, a2fN, a3fN, a4fN, a5fN, a6fN, a8fN, a9fN]; done) | (exfalso; omega))); (try rfl)) (by (unfold g_step); (try dsimp only); (try simp only [bNS, g_step1, efN, b0fN, b1fN, b2fN, b3fN, b4fN, b5fN, b6fN, b8fN, b9fN, esN, ekN, Int.toNat_natCast]); (repeat (first | rw [if_pos (by omega)] | rw [if_neg (by omega)])); (try rfl); (all_goals first | rfl | (simp only [a0fN, a1fN, a2fN, a3fN, a4fN, a5fN, a6fN, a8fN, a9fN]; done) | ((repeat' split) <;> first | rfl | (simp only [a0fN, a1fN, a2fN, a3fN, a4fN, a5fN, a6fN, a8fN, a9fN]; done) | (exfalso; omega))); (try rfl)) (by decide) FrS.rf hI18
