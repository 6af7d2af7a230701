/-! THE REFERENCE: persons, overrides -/
theorem FrS.setR_tr {I J K : Nat → Nat → Int32} {G G2 : Nat → Int32} (h : FrS (setR I 762 G) J) (h2 : FrS (setR J 762 G2) K) : FrS (setR I 762 G2) K := by
  intro a j q
  have e2 := h2 a j q
  have e1 := h a j q
  unfold setR at e1 e2 ⊢
  by_cases e : a = 762
  · rw [if_pos e] at e2 ⊢; exact e2
  · rw [if_neg e] at e1 e2 ⊢; exact e2.trans e1
def g_loses (G : Nat → Int32) (F k : Nat) : Nat → Int32 := u1 (shf G (174 + 84 * F + (20 + 2 * k)) (174 + 84 * F + (20 + 2 * ((G (174 + 84 * F + 6)).toInt.toNat - 1))) 2) (174 + 84 * F + 6) (nI ((G (174 + 84 * F + 6)).toInt.toNat - 1))
def kz (G : Nat → Int32) (p m : Nat) : Nat → Int32 := fun j => if 174 ≤ j ∧ j < 174 + 84 * m ∧ (j - 174) % 84 = 36 + p then nI 0 else G j
theorem kz_0 {G : Nat → Int32} {p : Nat} : kz G p 0 = G := by
  funext j; unfold kz; rw [if_neg (by omega)]
theorem kz_s {G : Nat → Int32} {p m q : Nat} (hp : p < 24) (hq : q = 174 + 84 * m + (36 + p)) : u1 (kz G p m) q (nI 0) = kz G p (m + 1) := by
  subst hq; funext j
  unfold u1 kz
  by_cases e : j = 174 + 84 * m + (36 + p)
  · subst e; rw [if_pos rfl, if_pos (by omega)]
  · rw [if_neg e]
    by_cases e2 : 174 ≤ j ∧ j < 174 + 84 * m ∧ (j - 174) % 84 = 36 + p
    · rw [if_pos e2, if_pos (by omega)]
    · rw [if_neg e2, if_neg (by omega)]
theorem setR_kz {I J K : Nat → Nat → Int32} {G : Nat → Int32} {p m q : Nat} (h : FrS (setR I 762 (kz G p m)) J) (e : K = u2 J 762 q (nI 0)) (hp : p < 24) (hq : q = 174 + 84 * m + (36 + p)) : FrS (setR I 762 (kz G p (m + 1))) K := by
  rw [← kz_s hp hq]; exact setR_put h e
/-- a feature behind a person's going -/
def gone1 (G : Nat → Int32) (key : Int32) (p n F : Nat) : Nat → Int32 :=
  u1 (shf (match oB G F (G (174 + 84 * F + 6)).toInt.toNat key with | some k => g_loses G F k | none => G) (174 + 84 * F + (36 + p)) (174 + 84 * F + (36 + n)) 1) (174 + 84 * F + (36 + n)) (nI 0)
def goneF (G : Nat → Int32) (key : Int32) (p n : Nat) : Nat → Nat → Int32
  | 0 => G
  | m + 1 => gone1 (goneF G key p n m) key p n m
theorem g_loses_o {G : Nat → Int32} {F k j : Nat} (h : j < 174 + 84 * F ∨ 174 + 84 * F + 84 ≤ j) (h6 : (G (174 + 84 * F + 6)).toInt.toNat ≤ 8) : g_loses G F k j = G j := by
  unfold g_loses
  rw [u1_o (by omega), shf_o (by omega)]
theorem gone1_o {G : Nat → Int32} {key : Int32} {p n F j : Nat} (hn : n < 24) (h : j < 174 + 84 * F ∨ 174 + 84 * F + 84 ≤ j) (h6 : (G (174 + 84 * F + 6)).toInt.toNat ≤ 8) : gone1 G key p n F j = G j := by
  unfold gone1
  rw [u1_o (by omega), shf_o (by omega)]
  cases oB G F (G (174 + 84 * F + 6)).toInt.toNat key with
  | none => rfl
  | some k => exact g_loses_o h h6
theorem goneF_o {G : Nat → Int32} {key : Int32} {p n : Nat} (hn : n < 24) : ∀ {m : Nat}, (∀ F, F < m → (G (174 + 84 * F + 6)).toInt.toNat ≤ 8) → ∀ {j : Nat}, (j < 174 ∨ 174 + 84 * m ≤ j) → goneF G key p n m j = G j
  | 0, _, _, _ => rfl
  | m + 1, h6, j, hj => by
    unfold goneF
    have e6 : goneF G key p n m (174 + 84 * m + 6) = G (174 + 84 * m + 6) := goneF_o hn (fun F hF => h6 F (by omega)) (by omega)
    rw [gone1_o hn (by omega) (by rw [e6]; exact h6 m (by omega))]
    exact goneF_o hn (fun F hF => h6 F (by omega)) (by omega)
def o_gone (G : Nat → Int32) (nP : Nat) (key : Int32) : Out := match pB G nP key with
  | none => .inr 0
  | some _ => .inl (nI (nP - 1))
def g_gone1 (G : Nat → Int32) (nP nF : Nat) (key : Int32) (p : Nat) : Nat → Int32 := u1 (shf (goneF G key p (nP - 1) nF) (6 + 2 * p) (6 + 2 * (nP - 1)) 2) 0 (nI (nP - 1))
def g_gone (G : Nat → Int32) (nP nF : Nat) (key : Int32) : Nat → Int32 := match pB G nP key with
  | none => G
  | some p => g_gone1 G nP nF key p
def o_person (G : Nat → Int32) (nP : Nat) (key att : Int32) : Out := if (0 ≤ key.toInt ∧ key.toInt ≤ 999999) ∧ 0 ≤ att.toInt ∧ att.toInt ≤ 9999 then (match pB G nP key with
  | some _ => .inl (nI nP)
  | none => if (nP : Int) = 24 then .inr 4 else .inl (nI (nP + 1))) else .inr 0
def g_person (G : Nat → Int32) (nP : Nat) (key att : Int32) : Nat → Int32 := if (0 ≤ key.toInt ∧ key.toInt ≤ 999999) ∧ 0 ≤ att.toInt ∧ att.toInt ≤ 9999 then (match pB G nP key with
  | some p => u1 G (6 + 2 * p + 1) att
  | none => if (nP : Int) = 24 then G else u1 (kz (u1 (u1 G 0 (nI (nP + 1))) (6 + 2 * nP) key) nP 12) (6 + 2 * nP + 1) att) else G
def o_override (G : Nat → Int32) (nP nF : Nat) (f key v : Int32) : Out := if (0 ≤ f.toInt ∧ f.toInt < (nF : Int)) ∧ -1 ≤ v.toInt ∧ v.toInt ≤ (G (174 + 84 * f.toInt.toNat + 0)).toInt then (match pB G nP key with
  | none => .inr 0
  | some _ => (match oB G f.toInt.toNat (G (174 + 84 * f.toInt.toNat + 6)).toInt.toNat key with
    | some k => .inl (G (174 + 84 * f.toInt.toNat + (20 + 2 * k + 1)))
    | none => if v.toInt = -1 then .inl (-1) else if (G (174 + 84 * f.toInt.toNat + 6)).toInt = 8 then .inr 4 else .inl (-1))) else .inr 0
def g_override (G : Nat → Int32) (nP nF : Nat) (f key v : Int32) : Nat → Int32 := if (0 ≤ f.toInt ∧ f.toInt < (nF : Int)) ∧ -1 ≤ v.toInt ∧ v.toInt ≤ (G (174 + 84 * f.toInt.toNat + 0)).toInt then (match pB G nP key with
  | none => G
  | some _ => (match oB G f.toInt.toNat (G (174 + 84 * f.toInt.toNat + 6)).toInt.toNat key with
    | some k => if v.toInt = -1 then g_loses G f.toInt.toNat k else u1 G (174 + 84 * f.toInt.toNat + (20 + 2 * k + 1)) v
    | none => if v.toInt = -1 then G else if (G (174 + 84 * f.toInt.toNat + 6)).toInt = 8 then G else
      u1 (u1 (u1 G (174 + 84 * f.toInt.toNat + (20 + 2 * (G (174 + 84 * f.toInt.toNat + 6)).toInt.toNat)) key) (174 + 84 * f.toInt.toNat + 6) (nI ((G (174 + 84 * f.toInt.toNat + 6)).toInt.toNat + 1))) (174 + 84 * f.toInt.toNat + (20 + 2 * (G (174 + 84 * f.toInt.toNat + 6)).toInt.toNat + 1)) v)) else G
/-- a feature in a layer that meets a range -/
def meets (G : Nat → Int32) (F : Nat) (l a b : Int32) (i : Nat) : Bool := decide (0 ≤ l.toInt ∧ (i : Int) ≠ (F : Int) ∧ (G (174 + 84 * i + 7)).toInt = l.toInt ∧ (G (174 + 84 * i + 8)).toInt ≤ b.toInt ∧ a.toInt ≤ (G (174 + 84 * i + 9)).toInt)
abbrev okLayer (nF : Nat) (f l a b : Int32) : Prop := (0 ≤ f.toInt ∧ f.toInt < (nF : Int)) ∧ (-1 ≤ l.toInt ∧ l.toInt ≤ 3) ∧ (0 ≤ l.toInt → (0 ≤ a.toInt ∧ a.toInt ≤ 999) ∧ a.toInt ≤ b.toInt ∧ b.toInt ≤ 999)
def o_layer (G : Nat → Int32) (nF : Nat) (f l a b : Int32) : Out := if (0 ≤ f.toInt ∧ f.toInt < (nF : Int)) ∧ (-1 ≤ l.toInt ∧ l.toInt ≤ 3) ∧ (0 ≤ l.toInt → (0 ≤ a.toInt ∧ a.toInt ≤ 999) ∧ a.toInt ≤ b.toInt ∧ b.toInt ≤ 999) then (match fst1 (meets G f.toInt.toNat l a b) nF with
  | some _ => .inr 3
  | none => .inl (nI 1)) else .inr 0
def g_layer1 (G : Nat → Int32) (F : Nat) (l a b : Int32) : Nat → Int32 := u1 (u1 (u1 G (174 + 84 * F + 7) l) (174 + 84 * F + 8) a) (174 + 84 * F + 9) b
def g_layer (G : Nat → Int32) (nF : Nat) (f l a b : Int32) : Nat → Int32 := if (0 ≤ f.toInt ∧ f.toInt < (nF : Int)) ∧ (-1 ≤ l.toInt ∧ l.toInt ≤ 3) ∧ (0 ≤ l.toInt → (0 ≤ a.toInt ∧ a.toInt ≤ 999) ∧ a.toInt ≤ b.toInt ∧ b.toInt ≤ 999) then (match fst1 (meets G f.toInt.toNat l a b) nF with
  | some _ => G
  | none => if l.toInt < 0 then g_layer1 G f.toInt.toNat l (nI 0) (nI 0) else g_layer1 G f.toInt.toNat l a b) else G
theorem l_M_loses {d : Nat} {I : Nat → Nat → Int32} {R : Nat → Nat → Option Nat} {L : Nat → Nat → Int64} {sh : Nat → Nat × Nat} {N : Nat} (hS : ShOK sh) (hR : RfOK R) {F k nO : Nat} (hF : F < 12) (hk8 : k < nO) (hO8 : nO ≤ 8) (hd : 1 ≤ d) {Q : Option Value → HS → Prop} (hk : ∀ J, FrS (setR I 762 (shf (I 762) (174 + 84 * F + (20 + 2 * k)) (174 + 84 * F + (20 + 2 * (nO - 1))) 2)) J → Run mi_M_loses d 0 0 51 [(0, .ref 761), (1, .int (nI F)), (2, .int (nI k)), (3, .int (nI (nO - 1)))] [] (J, R, L, sh, N) Q) : ∀ (n_ : Nat) (i : Nat) (J : Nat → Nat → Int32), 2 * (nO - 1) - i = n_ → (FrS (setR I 762 (shf (I 762) (174 + 84 * F + (20 + 2 * k)) (174 + 84 * F + (20 + i)) 2)) J) → (2 * k ≤ i ∧ i ≤ 2 * (nO - 1)) → Run mi_M_loses d 0 0 15 [(0, .ref 761), (1, .int (nI F)), (2, .int (nI k)), (3, .int (nI (nO - 1))), (4, .int (nI i))] [] (J, R, L, sh, N) Q := by
  intro n_
  induction n_ using Nat.strongRecOn with | ind n_ ih_ => ?_
  intro i J hn_ v0_ v1_
  refine r_iload (pc2 := 17) d_M_loses_15 rfl rfl ?_
  refine r_iconst (v := nI 2) (pc2 := 18) d_M_loses_17 rfl (by decide) ?_
  refine r_iload_n (pc2 := 19) d_M_loses_18 rfl rfl ?_
  refine q_imulN (pc2 := 20) d_M_loses_19 rfl ?_
  refine q_icmp_ge (tgt := 51) (A := ((i : Nat) : Int)) (B := ((2 * (nO - 1) : Nat) : Int)) (pc2 := 23) d_M_loses_20 rfl rfl (nI_toInt (by omega)) (nI_toInt (by omega)) (fun c1 => ?_) (fun c1 => ?_)
  · refine Run.sub (l2 := [(0, .ref 761), (1, .int (nI F)), (2, .int (nI k)), (3, .int (nI (nO - 1)))]) ⟨rfl, rfl, rfl, rfl, trivial⟩ ?_
    exact hk J (by rw [show i = 2 * (nO - 1) by omega] at v0_; exact v0_)
  · refine r_aload_n (x := some 761) (pc2 := 24) d_M_loses_23 rfl rfl ?_
    refine r_iload_n (pc2 := 25) d_M_loses_24 rfl rfl ?_
    refine r_bipush (v := nI 20) (pc2 := 27) d_M_loses_25 rfl (by decide) ?_
    refine r_iload (pc2 := 29) d_M_loses_27 rfl rfl ?_
    refine q_iaddN (pc2 := 30) d_M_loses_29 rfl ?_
    refine r_aload_n (x := some 761) (pc2 := 31) d_M_loses_30 rfl rfl ?_
    refine r_iload_n (pc2 := 32) d_M_loses_31 rfl rfl ?_
    refine r_bipush (v := nI 20) (pc2 := 34) d_M_loses_32 rfl (by decide) ?_
    refine r_iload (pc2 := 36) d_M_loses_34 rfl rfl ?_
    refine q_iaddN (pc2 := 37) d_M_loses_36 rfl ?_
    refine r_iconst (v := nI 2) (pc2 := 38) d_M_loses_37 rfl (by decide) ?_
    refine q_iaddN (pc2 := 39) d_M_loses_38 rfl ?_
    refine q_callv (M2 := mi_M_of) (pc2 := 42) d_M_loses_39 rfl k_M_76 cm_M_of cv_M_of (sh_761 hS) (by decide) rfl rfl rfl (Nat.le_of_ble_eq_true rfl) (c_M_of (I := J) (F := F) (W := 20 + i + 2) hS hR (by omega)) (d2 := d - 1) (by omega) (Nat.le_of_eq (Nat.zero_add _)) (Nat.le_of_eq (Nat.zero_add _)) ?_
    refine q_top (y := I 762 (174 + 84 * F + (20 + i + 2))) ((congrFun v0_.row2 _).trans (shf_o (by omega))) ?_
    refine q_callvV (M2 := mi_M_is) (pc2 := 45) d_M_loses_42 rfl k_M_157 cm_M_is cv_M_is (sh_761 hS) (by decide) rfl rfl rfl (Nat.le_of_ble_eq_true rfl) (c_M_is (I := J) (F := F) (W := 20 + i) (v := I 762 (174 + 84 * F + (20 + i + 2))) hS hR (by omega)) (d2 := d - 1) (by omega) (Nat.le_of_eq (Nat.zero_add _)) (Nat.le_of_eq (Nat.zero_add _)) ?_
    obtain ⟨I2, hI2⟩ : ∃ x, x = u2 J 762 (174 + 84 * F + (20 + i)) (I 762 (174 + 84 * F + (20 + i + 2))) := ⟨_, rfl⟩
    rw [← hI2]
    refine q_iinc (b := 1) (pc2 := 48) d_M_loses_45 rfl rfl (by decide) (Nat.le_of_ble_eq_true rfl) ?_
    refine r_goto (tgt := 15) d_M_loses_48 rfl ?_
    refine Run.sub (l2 := [(0, .ref 761), (1, .int (nI F)), (2, .int (nI k)), (3, .int (nI (nO - 1))), (4, .int (nI (i + 1)))]) ⟨rfl, rfl, rfl, rfl, rfl, trivial⟩ ?_
    exact ih_ (2 * (nO - 1) - (i + 1)) (by omega) (i + 1) I2 rfl (setR_shf v0_ hI2 rfl (by omega) (by omega) (by omega)) (by omega)
theorem c_M_loses {d : Nat} {I : Nat → Nat → Int32} {R : Nat → Nat → Option Nat} {L : Nat → Nat → Int64} {sh : Nat → Nat × Nat} {N : Nat} (hS : ShOK sh) (hR : RfOK R) {F k nO : Nat} (hF : F < 12) (hO : I 762 (174 + 84 * F + 6) = nI nO) (hk8 : k < nO) (hO8 : nO ≤ 8) (hd : 2 ≤ d) : Mt mi_M_loses d 0 0 [.ref 761, .int (nI F), .int (nI k)] (I, R, L, sh, N) (fun r h2 => r = none ∧ ∃ K, h2 = (K, R, L, sh, N) ∧ FrS (setR I 762 (g_loses (I 762) F k)) K) := by
  have bO : (I 762 (174 + 84 * F + 6)).toInt = (nO : Int) := by rw [hO, nI_toInt (by omega)]
  refine Mt.of pn_M (Nat.le_of_ble_eq_true rfl) ?_
  show Run mi_M_loses d 0 0 0 [(0, .ref 761), (1, .int (nI F)), (2, .int (nI k))] [] (I, R, L, sh, N) _
  refine r_aload_n (x := some 761) (pc2 := 1) d_M_loses_0 rfl rfl ?_
  refine r_iload_n (pc2 := 2) d_M_loses_1 rfl rfl ?_
  refine r_bipush (v := nI 6) (pc2 := 4) d_M_loses_2 rfl (by decide) ?_
  refine q_callv (M2 := mi_M_of) (pc2 := 7) d_M_loses_4 rfl k_M_76 cm_M_of cv_M_of (sh_761 hS) (by decide) rfl rfl rfl (Nat.le_of_ble_eq_true rfl) (c_M_of (I := I) (F := F) (W := 6) hS hR (by omega)) (d2 := d - 1) (by omega) (Nat.le_of_eq (Nat.zero_add _)) (Nat.le_of_eq (Nat.zero_add _)) ?_
  refine q_top (y := nI nO) (hO) ?_
  refine r_iconst (v := nI 1) (pc2 := 8) d_M_loses_7 rfl (by decide) ?_
  refine q_isubN (pc2 := 9) d_M_loses_8 rfl (by omega) ?_
  refine r_istore_n (pc2 := 10) d_M_loses_9 rfl rfl (Nat.le_of_ble_eq_true rfl) ?_
  refine r_iconst (v := nI 2) (pc2 := 11) d_M_loses_10 rfl (by decide) ?_
  refine r_iload_n (pc2 := 12) d_M_loses_11 rfl rfl ?_
  refine q_imulN (pc2 := 13) d_M_loses_12 rfl ?_
  refine r_istore (pc2 := 15) d_M_loses_13 rfl (Nat.le_of_ble_eq_true rfl) ?_
  refine Run.sub (l2 := [(0, .ref 761), (1, .int (nI F)), (2, .int (nI k)), (3, .int (nI (nO - 1))), (4, .int (nI (2 * k)))]) ⟨rfl, rfl, rfl, rfl, rfl, trivial⟩ ?_
  refine l_M_loses hS hR hF hk8 hO8 (by omega) (hk := fun J1 hJ1 => ?_) _ (2 * k) I rfl (by rw [shf_0]; exact FrS.rf.set) (by omega)
  have hGJ1 := hJ1.row2
  refine r_aload_n (x := some 761) (pc2 := 52) d_M_loses_51 rfl rfl ?_
  refine r_iload_n (pc2 := 53) d_M_loses_52 rfl rfl ?_
  refine r_bipush (v := nI 6) (pc2 := 55) d_M_loses_53 rfl (by decide) ?_
  refine r_iload_n (pc2 := 56) d_M_loses_55 rfl rfl ?_
  refine q_callvV (M2 := mi_M_is) (pc2 := 59) d_M_loses_56 rfl k_M_157 cm_M_is cv_M_is (sh_761 hS) (by decide) rfl rfl rfl (Nat.le_of_ble_eq_true rfl) (c_M_is (I := J1) (F := F) (W := 6) (v := nI (nO - 1)) hS hR (by omega)) (d2 := d - 1) (by omega) (Nat.le_of_eq (Nat.zero_add _)) (Nat.le_of_eq (Nat.zero_add _)) ?_
  obtain ⟨I2, hI2⟩ : ∃ x, x = u2 J1 762 (174 + 84 * F + 6) (nI (nO - 1)) := ⟨_, rfl⟩
  rw [← hI2]
  refine Run.ret none d_M_loses_59 rfl ?_
  exact ⟨rfl, _, rfl, by unfold g_loses; simp only [bO, Int.toNat_natCast]; exact (setR_put hJ1 hI2)⟩
theorem l_M_person {d : Nat} {I : Nat → Nat → Int32} {R : Nat → Nat → Option Nat} {L : Nat → Nat → Int64} {sh : Nat → Nat × Nat} {N : Nat} (hS : ShOK sh) (hR : RfOK R) {nP : Nat} (hP24 : nP < 24) {key att : Int32} {G : Nat → Int32} (hd : 1 ≤ d) {Q : Option Value → HS → Prop} (hk : ∀ J, FrS (setR I 762 (kz G nP 12)) J → Run mi_M_person d 0 0 115 [(0, .ref 761), (1, .int key), (2, .int att), (3, .int (nI nP)), (4, .int (nI nP))] [] (J, R, L, sh, N) Q) : ∀ (n_ : Nat) (i : Nat) (J : Nat → Nat → Int32), 12 - i = n_ → (FrS (setR I 762 (kz G nP i)) J) → (i ≤ 12) → Run mi_M_person d 0 0 91 [(0, .ref 761), (1, .int key), (2, .int att), (3, .int (nI nP)), (4, .int (nI nP)), (5, .int (nI i))] [] (J, R, L, sh, N) Q := by
  intro n_
  induction n_ using Nat.strongRecOn with | ind n_ ih_ => ?_
  intro i J hn_ v0_ v1_
  refine r_iload (pc2 := 93) d_M_person_91 rfl rfl ?_
  refine r_bipush (v := nI 12) (pc2 := 95) d_M_person_93 rfl (by decide) ?_
  refine q_icmp_ge (tgt := 115) (A := ((i : Nat) : Int)) (B := (12 : Int)) (pc2 := 98) d_M_person_95 rfl rfl (nI_toInt (by omega)) (nI_toInt (by omega)) (fun c1 => ?_) (fun c1 => ?_)
  · refine Run.sub (l2 := [(0, .ref 761), (1, .int key), (2, .int att), (3, .int (nI nP)), (4, .int (nI nP))]) ⟨rfl, rfl, rfl, rfl, rfl, trivial⟩ ?_
    exact hk J (by rw [show i = 12 by omega] at v0_; exact v0_)
  · refine r_aload_n (x := some 761) (pc2 := 99) d_M_person_98 rfl rfl ?_
    refine r_iload (pc2 := 101) d_M_person_99 rfl rfl ?_
    refine r_bipush (v := nI 36) (pc2 := 103) d_M_person_101 rfl (by decide) ?_
    refine r_iload_n (pc2 := 104) d_M_person_103 rfl rfl ?_
    refine q_iaddN (pc2 := 105) d_M_person_104 rfl ?_
    refine r_iconst (v := nI 0) (pc2 := 106) d_M_person_105 rfl (by decide) ?_
    refine q_callvV (M2 := mi_M_is) (pc2 := 109) d_M_person_106 rfl k_M_157 cm_M_is cv_M_is (sh_761 hS) (by decide) rfl rfl rfl (Nat.le_of_ble_eq_true rfl) (c_M_is (I := J) (F := i) (W := 36 + nP) (v := nI 0) hS hR (by omega)) (d2 := d - 1) (by omega) (Nat.le_of_eq (Nat.zero_add _)) (Nat.le_of_eq (Nat.zero_add _)) ?_
    obtain ⟨I2, hI2⟩ : ∃ x, x = u2 J 762 (174 + 84 * i + (36 + nP)) (nI 0) := ⟨_, rfl⟩
    rw [← hI2]
    refine q_iinc (b := 1) (pc2 := 112) d_M_person_109 rfl rfl (by decide) (Nat.le_of_ble_eq_true rfl) ?_
    refine r_goto (tgt := 91) d_M_person_112 rfl ?_
    refine Run.sub (l2 := [(0, .ref 761), (1, .int key), (2, .int att), (3, .int (nI nP)), (4, .int (nI nP)), (5, .int (nI (i + 1)))]) ⟨rfl, rfl, rfl, rfl, rfl, rfl, trivial⟩ ?_
    exact ih_ (12 - (i + 1)) (by omega) (i + 1) I2 rfl (setR_kz v0_ hI2 (by omega) rfl) (by omega)
theorem c_M_person {d : Nat} {I : Nat → Nat → Int32} {R : Nat → Nat → Option Nat} {L : Nat → Nat → Int64} {sh : Nat → Nat × Nat} {N : Nat} (hS : ShOK sh) (hR : RfOK R) {kA fA cA gA nk nt : Nat} (hT : TRf R sh kA fA cA gA nk) (hTn : TNe kA fA cA gA) (hV : TV (I kA) (I fA) (I cA) nt) (hnt : nt ≤ nk) (hnk : nk ≤ 1000000) {nP nF : Nat} (hW : WFA (I 762) nP nF nt) {rk : Nat → Nat} (hrk : RK (I 762) nF rk) {key : Int32} {att : Int32} (hd : nt + 60 ≤ d) : Mt mi_M_person d 0 0 [.ref 761, .int key, .int att] (I, R, L, sh, N) (RQW I R L sh N (o_person (I 762) nP key att) (g_person (I 762) nP key att)) := by
  obtain ⟨hPc, hP24, hFc, hF12, hWF, hWP⟩ := id hW
  obtain ⟨hn1, hn2, hn3, hn4⟩ := id hTn
  refine Mt.of pn_M (Nat.le_of_ble_eq_true rfl) ?_
  show Run mi_M_person d 0 0 0 [(0, .ref 761), (1, .int key), (2, .int att)] [] (I, R, L, sh, N) _
  refine r_iload_n (pc2 := 1) d_M_person_0 rfl rfl ?_
  refine r_i2l (pc2 := 2) d_M_person_1 rfl ?_
  refine r_lconst (v := (0 : Int64)) (pc2 := 3) d_M_person_2 rfl (by decide) ?_
  refine r_ldc2 (pc2 := 6) d_M_person_3 rfl k_M_212 ?_
  refine q_calls (M2 := mi_M_in) (pc2 := 9) d_M_person_6 rfl k_M_68 cm_M_in cs_M_in rfl rfl (Nat.le_of_ble_eq_true rfl) (c_M_in (A := key.toInt) (B := (0 : Int)) (C := (999999 : Int)) (toInt64_toInt (rfl)) (by decide) (by decide)) (d2 := d - 1) (by omega) (Nat.le_of_eq (Nat.zero_add _)) (Nat.le_of_eq (Nat.zero_add _)) ?_
  refine q_bif_eq (tgt := 24) (pc2 := 12) d_M_person_9 rfl rfl (fun c1 => ?_) (fun c1 => ?_)
  · refine r_aload_n (x := some 761) (pc2 := 25) d_M_person_24 rfl rfl ?_
    refine r_bipush (v := (-32 : Int32)) (pc2 := 27) d_M_person_25 rfl (by decide) ?_
    refine q_callv (M2 := mi_M_refused) (pc2 := 30) d_M_person_27 rfl k_M_106 cm_M_refused cv_M_refused (sh_761 hS) (by decide) rfl rfl rfl (Nat.le_of_ble_eq_true rfl) (c_M_refused_0 (I := I) hS hR) (d2 := d - 1) (by omega) (Nat.le_of_eq (Nat.zero_add _)) (Nat.le_of_eq (Nat.zero_add _)) ?_
    obtain ⟨I2, hI2⟩ : ∃ x, x = u2 I 765 0 (I 765 0 + nI 1) := ⟨_, rfl⟩
    rw [← hI2]
    refine Run.ret (some (.int ((-32 : Int32)))) d_M_person_30 ⟨_, rfl⟩ ?_
    exact RQW.bad 0 (by (unfold o_person); (try dsimp only); (try simp only [Int.toNat_natCast]); (repeat (first | rw [if_pos (by omega)] | rw [if_neg (by omega)])); (try rfl); (all_goals first | rfl | ((repeat' split) <;> first | rfl | (exfalso; omega) | skip)); (try rfl)) (by (unfold g_person); (try dsimp only); (try simp only [Int.toNat_natCast]); (repeat (first | rw [if_pos (by omega)] | rw [if_neg (by omega)])); (try rfl); (all_goals first | rfl | ((repeat' split) <;> first | rfl | (exfalso; omega) | skip)); (try rfl)) (by decide) FrS.rf hI2
  · obtain ⟨keyN, hkeyN, gkeyN, rfl, ekeyN⟩ := nat_of' (show (0 : Int) ≤ (0 : Int) by decide) c1
    refine r_iload_n (pc2 := 13) d_M_person_12 rfl rfl ?_
    refine r_i2l (pc2 := 14) d_M_person_13 rfl ?_
    refine r_lconst (v := (0 : Int64)) (pc2 := 15) d_M_person_14 rfl (by decide) ?_
    refine r_ldc2 (pc2 := 18) d_M_person_15 rfl k_M_214 ?_
    refine q_calls (M2 := mi_M_in) (pc2 := 21) d_M_person_18 rfl k_M_68 cm_M_in cs_M_in rfl rfl (Nat.le_of_ble_eq_true rfl) (c_M_in (A := att.toInt) (B := (0 : Int)) (C := (9999 : Int)) (toInt64_toInt (rfl)) (by decide) (by decide)) (d2 := d - 1) (by omega) (Nat.le_of_eq (Nat.zero_add _)) (Nat.le_of_eq (Nat.zero_add _)) ?_
    refine q_bif_ne (tgt := 31) (pc2 := 24) d_M_person_21 rfl rfl (fun c3 => ?_) (fun c3 => ?_)
    · obtain ⟨attN, hattN, gattN, rfl, eattN⟩ := nat_of' (show (0 : Int) ≤ (0 : Int) by decide) c3
      refine r_aload_n (x := some 761) (pc2 := 32) d_M_person_31 rfl rfl ?_
      refine r_iload_n (pc2 := 33) d_M_person_32 rfl rfl ?_
      refine q_callv (M2 := mi_M_personBy) (pc2 := 36) d_M_person_33 rfl k_M_204 cm_M_personBy cv_M_personBy (sh_761 hS) (by decide) rfl rfl rfl (Nat.le_of_ble_eq_true rfl) (c_M_personBy (I := I) (nP := nP) (key := nI keyN) hS hR (hPc) hP24 (by omega)) (d2 := d - 1) (by omega) (Nat.le_of_eq (Nat.zero_add _)) (Nat.le_of_eq (Nat.zero_add _)) ?_
      cases hopk : pB (I 762) nP (nI keyN) with
      | none =>
        refine r_istore_n (pc2 := 37) d_M_person_36 rfl rfl (Nat.le_of_ble_eq_true rfl) ?_
        refine r_aload_n (x := some 761) (pc2 := 38) d_M_person_37 rfl rfl ?_
        refine q_getR (x := some 762) (pc2 := 41) d_M_person_38 rfl k_M_9 rfl (sh_761 hS) (rf_761_0 hR) ?_
        refine r_iconst (v := nI 0) (pc2 := 42) d_M_person_41 rfl (by decide) ?_
        refine q_iaload (q := 0) (x := nI nP) (pc2 := 43) d_M_person_42 rfl (sh_762 hS) (nI_toInt (by omega)) (by omega) hPc ?_
        refine r_istore (pc2 := 45) d_M_person_43 rfl (Nat.le_of_ble_eq_true rfl) ?_
        refine r_iload_n (pc2 := 46) d_M_person_45 rfl rfl ?_
        refine q_if_ge (tgt := 115) (A := (-1 : Int)) (pc2 := 49) d_M_person_46 rfl rfl (by decide) (fun c4 => ?_) (fun c4 => ?_)
        · exfalso; omega
        refine r_iload (pc2 := 51) d_M_person_49 rfl rfl ?_
        refine r_bipush (v := nI 24) (pc2 := 53) d_M_person_51 rfl (by decide) ?_
        refine q_icmp_ne (tgt := 63) (A := ((nP : Nat) : Int)) (B := (24 : Int)) (pc2 := 56) d_M_person_53 rfl rfl (nI_toInt (by omega)) (nI_toInt (by omega)) (fun c5 => ?_) (fun c5 => ?_)
        · refine r_iload (pc2 := 65) d_M_person_63 rfl rfl ?_
          refine r_istore_n (pc2 := 66) d_M_person_65 rfl rfl (Nat.le_of_ble_eq_true rfl) ?_
          refine r_aload_n (x := some 761) (pc2 := 67) d_M_person_66 rfl rfl ?_
          refine q_getR (x := some 762) (pc2 := 70) d_M_person_67 rfl k_M_9 rfl (sh_761 hS) (rf_761_0 hR) ?_
          refine r_iconst (v := nI 0) (pc2 := 71) d_M_person_70 rfl (by decide) ?_
          refine r_iload (pc2 := 73) d_M_person_71 rfl rfl ?_
          refine r_iconst (v := nI 1) (pc2 := 74) d_M_person_73 rfl (by decide) ?_
          refine q_iaddN (pc2 := 75) d_M_person_74 rfl ?_
          refine q_iastore (q := 0) (pc2 := 76) d_M_person_75 rfl (sh_762 hS) (nI_toInt (by omega)) (by omega) (fun I6 hI6 => ?_)
          refine r_aload_n (x := some 761) (pc2 := 77) d_M_person_76 rfl rfl ?_
          refine q_getR (x := some 762) (pc2 := 80) d_M_person_77 rfl k_M_9 rfl (sh_761 hS) (rf_761_0 hR) ?_
          refine r_bipush (v := nI 6) (pc2 := 82) d_M_person_80 rfl (by decide) ?_
          refine r_iconst (v := nI 2) (pc2 := 83) d_M_person_82 rfl (by decide) ?_
          refine r_iload_n (pc2 := 84) d_M_person_83 rfl rfl ?_
          refine q_imulN (pc2 := 85) d_M_person_84 rfl ?_
          refine q_iaddN (pc2 := 86) d_M_person_85 rfl ?_
          refine r_iload_n (pc2 := 87) d_M_person_86 rfl rfl ?_
          refine q_iastore (q := 6 + 2 * nP) (pc2 := 88) d_M_person_87 rfl (sh_762 hS) (nI_toInt (by omega)) (by omega) (fun I7 hI7 => ?_)
          refine r_iconst (v := nI 0) (pc2 := 89) d_M_person_88 rfl (by decide) ?_
          refine r_istore (pc2 := 91) d_M_person_89 rfl (Nat.le_of_ble_eq_true rfl) ?_
          refine Run.sub (l2 := [(0, .ref 761), (1, .int (nI keyN)), (2, .int (nI attN)), (3, .int (nI nP)), (4, .int (nI nP)), (5, .int (nI 0))]) ⟨rfl, rfl, rfl, rfl, rfl, rfl, trivial⟩ ?_
          refine l_M_person hS hR (nP := nP) (key := nI keyN) (att := nI attN) (by omega) (by omega) (hk := fun J8 hJ8 => ?_) _ 0 I7 rfl (by rw [kz_0]; exact (setR_put (setR_put FrS.rf.set hI6) hI7)) (by omega)
          have hGJ8 := hJ8.row2
          refine r_aload_n (x := some 761) (pc2 := 116) d_M_person_115 rfl rfl ?_
          refine q_getR (x := some 762) (pc2 := 119) d_M_person_116 rfl k_M_9 rfl (sh_761 hS) (rf_761_0 hR) ?_
          refine r_bipush (v := nI 6) (pc2 := 121) d_M_person_119 rfl (by decide) ?_
          refine r_iconst (v := nI 2) (pc2 := 122) d_M_person_121 rfl (by decide) ?_
          refine r_iload_n (pc2 := 123) d_M_person_122 rfl rfl ?_
          refine q_imulN (pc2 := 124) d_M_person_123 rfl ?_
          refine q_iaddN (pc2 := 125) d_M_person_124 rfl ?_
          refine r_iconst (v := nI 1) (pc2 := 126) d_M_person_125 rfl (by decide) ?_
          refine q_iaddN (pc2 := 127) d_M_person_126 rfl ?_
          refine r_iload_n (pc2 := 128) d_M_person_127 rfl rfl ?_
          refine q_iastore (q := 6 + 2 * nP + 1) (pc2 := 129) d_M_person_128 rfl (sh_762 hS) (nI_toInt (by omega)) (by omega) (fun I9 hI9 => ?_)
          refine r_aload_n (x := some 761) (pc2 := 130) d_M_person_129 rfl rfl ?_
          refine q_getR (x := some 762) (pc2 := 133) d_M_person_130 rfl k_M_9 rfl (sh_761 hS) (rf_761_0 hR) ?_
          refine r_iconst (v := nI 0) (pc2 := 134) d_M_person_133 rfl (by decide) ?_
          refine q_iaload (q := 0) (x := nI (nP + 1)) (pc2 := 135) d_M_person_134 rfl (sh_762 hS) (nI_toInt (by omega)) (by omega) ((rd_nk hI9 (by omega)).trans ((congrFun hGJ8 _).trans (by unfold kz; rw [if_neg (by omega), u1_o (by omega), u1_i]))) ?_
          refine Run.ret (some (.int (nI (nP + 1)))) d_M_person_135 ⟨_, rfl⟩ ?_
          exact RQW.val (by (try simp only [ekeyN, eattN, Int.toNat_natCast] at c1 c3 c5); (unfold o_person); (try dsimp only); (try simp only [ekeyN, eattN, Int.toNat_natCast]); (repeat (first | rw [if_pos (by omega)] | rw [if_neg (by omega)] | (rw [hopk]; try dsimp only))); (try rfl); (all_goals first | rfl | ((repeat' split) <;> first | rfl | (exfalso; omega) | skip))) (by (try simp only [ekeyN, eattN, Int.toNat_natCast] at c1 c3 c5); (unfold g_person); (try dsimp only); (try simp only [ekeyN, eattN, Int.toNat_natCast]); (repeat (first | rw [if_pos (by omega)] | rw [if_neg (by omega)] | (rw [hopk]; try dsimp only))); exact (setR_put hJ8 hI9))
        · refine r_aload_n (x := some 761) (pc2 := 57) d_M_person_56 rfl rfl ?_
          refine r_bipush (v := (-36 : Int32)) (pc2 := 59) d_M_person_57 rfl (by decide) ?_
          refine q_callv (M2 := mi_M_refused) (pc2 := 62) d_M_person_59 rfl k_M_106 cm_M_refused cv_M_refused (sh_761 hS) (by decide) rfl rfl rfl (Nat.le_of_ble_eq_true rfl) (c_M_refused_4 (I := I) hS hR) (d2 := d - 1) (by omega) (Nat.le_of_eq (Nat.zero_add _)) (Nat.le_of_eq (Nat.zero_add _)) ?_
          obtain ⟨I10, hI10⟩ : ∃ x, x = u2 I 765 4 (I 765 4 + nI 1) := ⟨_, rfl⟩
          rw [← hI10]
          refine Run.ret (some (.int ((-36 : Int32)))) d_M_person_62 ⟨_, rfl⟩ ?_
          exact RQW.bad 4 (by (try simp only [ekeyN, eattN, Int.toNat_natCast] at c1 c3 c5); (unfold o_person); (try dsimp only); (try simp only [ekeyN, eattN, Int.toNat_natCast]); (repeat (first | rw [if_pos (by omega)] | rw [if_neg (by omega)] | (rw [hopk]; try dsimp only))); (try rfl); (all_goals first | rfl | ((repeat' split) <;> first | rfl | (exfalso; omega) | skip)); (try rfl)) (by (try simp only [ekeyN, eattN, Int.toNat_natCast] at c1 c3 c5); (unfold g_person); (try dsimp only); (try simp only [ekeyN, eattN, Int.toNat_natCast]); (repeat (first | rw [if_pos (by omega)] | rw [if_neg (by omega)] | (rw [hopk]; try dsimp only))); (try rfl); (all_goals first | rfl | ((repeat' split) <;> first | rfl | (exfalso; omega) | skip)); (try rfl)) (by decide) FrS.rf hI10
      | some pk =>
        obtain ⟨hppk, hqpk, -⟩ := fst1_spec (show fst1 _ _ = some pk from hopk)
        refine r_istore_n (pc2 := 37) d_M_person_36 rfl rfl (Nat.le_of_ble_eq_true rfl) ?_
        refine r_aload_n (x := some 761) (pc2 := 38) d_M_person_37 rfl rfl ?_
        refine q_getR (x := some 762) (pc2 := 41) d_M_person_38 rfl k_M_9 rfl (sh_761 hS) (rf_761_0 hR) ?_
        refine r_iconst (v := nI 0) (pc2 := 42) d_M_person_41 rfl (by decide) ?_
        refine q_iaload (q := 0) (x := nI nP) (pc2 := 43) d_M_person_42 rfl (sh_762 hS) (nI_toInt (by omega)) (by omega) hPc ?_
        refine r_istore (pc2 := 45) d_M_person_43 rfl (Nat.le_of_ble_eq_true rfl) ?_
        refine r_iload_n (pc2 := 46) d_M_person_45 rfl rfl ?_
        refine q_if_ge (tgt := 115) (A := ((pk : Nat) : Int)) (pc2 := 49) d_M_person_46 rfl rfl (nI_toInt (by omega)) (fun c11 => ?_) (fun c11 => ?_)
        rotate_left
        · exfalso; omega
        refine r_aload_n (x := some 761) (pc2 := 116) d_M_person_115 rfl rfl ?_
        refine q_getR (x := some 762) (pc2 := 119) d_M_person_116 rfl k_M_9 rfl (sh_761 hS) (rf_761_0 hR) ?_
        refine r_bipush (v := nI 6) (pc2 := 121) d_M_person_119 rfl (by decide) ?_
        refine r_iconst (v := nI 2) (pc2 := 122) d_M_person_121 rfl (by decide) ?_
        refine r_iload_n (pc2 := 123) d_M_person_122 rfl rfl ?_
        refine q_imulN (pc2 := 124) d_M_person_123 rfl ?_
        refine q_iaddN (pc2 := 125) d_M_person_124 rfl ?_
        refine r_iconst (v := nI 1) (pc2 := 126) d_M_person_125 rfl (by decide) ?_
        refine q_iaddN (pc2 := 127) d_M_person_126 rfl ?_
        refine r_iload_n (pc2 := 128) d_M_person_127 rfl rfl ?_
        refine q_iastore (q := 6 + 2 * pk + 1) (pc2 := 129) d_M_person_128 rfl (sh_762 hS) (nI_toInt (by omega)) (by omega) (fun I12 hI12 => ?_)
        refine r_aload_n (x := some 761) (pc2 := 130) d_M_person_129 rfl rfl ?_
        refine q_getR (x := some 762) (pc2 := 133) d_M_person_130 rfl k_M_9 rfl (sh_761 hS) (rf_761_0 hR) ?_
        refine r_iconst (v := nI 0) (pc2 := 134) d_M_person_133 rfl (by decide) ?_
        refine q_iaload (q := 0) (x := nI nP) (pc2 := 135) d_M_person_134 rfl (sh_762 hS) (nI_toInt (by omega)) (by omega) ((rd_nk hI12 (by omega)).trans (hPc)) ?_
        refine Run.ret (some (.int (nI nP))) d_M_person_135 ⟨_, rfl⟩ ?_
        exact RQW.val (by (try simp only [ekeyN, eattN, Int.toNat_natCast] at c1 c3); (unfold o_person); (try dsimp only); (try simp only [ekeyN, eattN, Int.toNat_natCast]); (repeat (first | rw [if_pos (by omega)] | rw [if_neg (by omega)] | (rw [hopk]; try dsimp only))); (try rfl); (all_goals first | rfl | ((repeat' split) <;> first | rfl | (exfalso; omega) | skip))) (by (try simp only [ekeyN, eattN, Int.toNat_natCast] at c1 c3); (unfold g_person); (try dsimp only); (try simp only [ekeyN, eattN, Int.toNat_natCast]); (repeat (first | rw [if_pos (by omega)] | rw [if_neg (by omega)] | (rw [hopk]; try dsimp only))); exact (setR_put FrS.rf.set hI12))
    · refine r_aload_n (x := some 761) (pc2 := 25) d_M_person_24 rfl rfl ?_
      refine r_bipush (v := (-32 : Int32)) (pc2 := 27) d_M_person_25 rfl (by decide) ?_
      refine q_callv (M2 := mi_M_refused) (pc2 := 30) d_M_person_27 rfl k_M_106 cm_M_refused cv_M_refused (sh_761 hS) (by decide) rfl rfl rfl (Nat.le_of_ble_eq_true rfl) (c_M_refused_0 (I := I) hS hR) (d2 := d - 1) (by omega) (Nat.le_of_eq (Nat.zero_add _)) (Nat.le_of_eq (Nat.zero_add _)) ?_
      obtain ⟨I13, hI13⟩ : ∃ x, x = u2 I 765 0 (I 765 0 + nI 1) := ⟨_, rfl⟩
      rw [← hI13]
      refine Run.ret (some (.int ((-32 : Int32)))) d_M_person_30 ⟨_, rfl⟩ ?_
      exact RQW.bad 0 (by (try simp only [ekeyN, Int.toNat_natCast] at c1 c3); (unfold o_person); (try dsimp only); (try simp only [ekeyN, Int.toNat_natCast]); (repeat (first | rw [if_pos (by omega)] | rw [if_neg (by omega)])); (try rfl); (all_goals first | rfl | ((repeat' split) <;> first | rfl | (exfalso; omega) | skip)); (try rfl)) (by (try simp only [ekeyN, Int.toNat_natCast] at c1 c3); (unfold g_person); (try dsimp only); (try simp only [ekeyN, Int.toNat_natCast]); (repeat (first | rw [if_pos (by omega)] | rw [if_neg (by omega)])); (try rfl); (all_goals first | rfl | ((repeat' split) <;> first | rfl | (exfalso; omega) | skip)); (try rfl)) (by decide) FrS.rf hI13
theorem l_M_gone_65 {d : Nat} {I : Nat → Nat → Int32} {R : Nat → Nat → Option Nat} {L : Nat → Nat → Int64} {sh : Nat → Nat × Nat} {N : Nat} (hS : ShOK sh) (hR : RfOK R) {F p n : Nat} (hF : F < 12) (hn : n < 24) {key kv : Int32} {G : Nat → Int32} (hd : 1 ≤ d) {Q : Option Value → HS → Prop} (hk : ∀ J, FrS (setR I 762 (shf G (174 + 84 * F + (36 + p)) (174 + 84 * F + (36 + n)) 1)) J → Run mi_M_gone d 0 0 101 [(0, .ref 761), (1, .int key), (2, .int (nI p)), (3, .int (nI n)), (4, .int (nI F))] [] (J, R, L, sh, N) Q) : ∀ (n_ : Nat) (i : Nat) (J : Nat → Nat → Int32), n - i = n_ → (FrS (setR I 762 (shf G (174 + 84 * F + (36 + p)) (174 + 84 * F + (36 + i)) 1)) J) → (p ≤ i ∧ i ≤ n) → Run mi_M_gone d 0 0 65 [(0, .ref 761), (1, .int key), (2, .int (nI p)), (3, .int (nI n)), (4, .int (nI F)), (5, .int kv), (6, .int (nI i))] [] (J, R, L, sh, N) Q := by
  intro n_
  induction n_ using Nat.strongRecOn with | ind n_ ih_ => ?_
  intro i J hn_ v0_ v1_
  refine r_iload (pc2 := 67) d_M_gone_65 rfl rfl ?_
  refine r_iload_n (pc2 := 68) d_M_gone_67 rfl rfl ?_
  refine q_icmp_ge (tgt := 101) (A := ((i : Nat) : Int)) (B := ((n : Nat) : Int)) (pc2 := 71) d_M_gone_68 rfl rfl (nI_toInt (by omega)) (nI_toInt (by omega)) (fun c1 => ?_) (fun c1 => ?_)
  · refine Run.sub (l2 := [(0, .ref 761), (1, .int key), (2, .int (nI p)), (3, .int (nI n)), (4, .int (nI F))]) ⟨rfl, rfl, rfl, rfl, rfl, trivial⟩ ?_
    exact hk J (by rw [show i = n by omega] at v0_; exact v0_)
  · refine r_aload_n (x := some 761) (pc2 := 72) d_M_gone_71 rfl rfl ?_
    refine r_iload (pc2 := 74) d_M_gone_72 rfl rfl ?_
    refine r_bipush (v := nI 36) (pc2 := 76) d_M_gone_74 rfl (by decide) ?_
    refine r_iload (pc2 := 78) d_M_gone_76 rfl rfl ?_
    refine q_iaddN (pc2 := 79) d_M_gone_78 rfl ?_
    refine r_aload_n (x := some 761) (pc2 := 80) d_M_gone_79 rfl rfl ?_
    refine r_iload (pc2 := 82) d_M_gone_80 rfl rfl ?_
    refine r_bipush (v := nI 36) (pc2 := 84) d_M_gone_82 rfl (by decide) ?_
    refine r_iload (pc2 := 86) d_M_gone_84 rfl rfl ?_
    refine q_iaddN (pc2 := 87) d_M_gone_86 rfl ?_
    refine r_iconst (v := nI 1) (pc2 := 88) d_M_gone_87 rfl (by decide) ?_
    refine q_iaddN (pc2 := 89) d_M_gone_88 rfl ?_
    refine q_callv (M2 := mi_M_of) (pc2 := 92) d_M_gone_89 rfl k_M_76 cm_M_of cv_M_of (sh_761 hS) (by decide) rfl rfl rfl (Nat.le_of_ble_eq_true rfl) (c_M_of (I := J) (F := F) (W := 36 + i + 1) hS hR (by omega)) (d2 := d - 1) (by omega) (Nat.le_of_eq (Nat.zero_add _)) (Nat.le_of_eq (Nat.zero_add _)) ?_
    refine q_top (y := G (174 + 84 * F + (36 + i + 1))) ((congrFun v0_.row2 _).trans (shf_o (by omega))) ?_
    refine q_callvV (M2 := mi_M_is) (pc2 := 95) d_M_gone_92 rfl k_M_157 cm_M_is cv_M_is (sh_761 hS) (by decide) rfl rfl rfl (Nat.le_of_ble_eq_true rfl) (c_M_is (I := J) (F := F) (W := 36 + i) (v := G (174 + 84 * F + (36 + i + 1))) hS hR (by omega)) (d2 := d - 1) (by omega) (Nat.le_of_eq (Nat.zero_add _)) (Nat.le_of_eq (Nat.zero_add _)) ?_
    obtain ⟨I2, hI2⟩ : ∃ x, x = u2 J 762 (174 + 84 * F + (36 + i)) (G (174 + 84 * F + (36 + i + 1))) := ⟨_, rfl⟩
    rw [← hI2]
    refine q_iinc (b := 1) (pc2 := 98) d_M_gone_95 rfl rfl (by decide) (Nat.le_of_ble_eq_true rfl) ?_
    refine r_goto (tgt := 65) d_M_gone_98 rfl ?_
    refine Run.sub (l2 := [(0, .ref 761), (1, .int key), (2, .int (nI p)), (3, .int (nI n)), (4, .int (nI F)), (5, .int kv), (6, .int (nI (i + 1)))]) ⟨rfl, rfl, rfl, rfl, rfl, rfl, rfl, trivial⟩ ?_
    exact ih_ (n - (i + 1)) (by omega) (i + 1) I2 rfl (setR_shf v0_ hI2 rfl (by omega) (by omega) (by omega)) (by omega)
theorem l_M_gone_123 {d : Nat} {I : Nat → Nat → Int32} {R : Nat → Nat → Option Nat} {L : Nat → Nat → Int64} {sh : Nat → Nat × Nat} {N : Nat} (hS : ShOK sh) (hR : RfOK R) {p n : Nat} (hn : n < 24) {key : Int32} {G : Nat → Int32} (hd : 1 ≤ d) {Q : Option Value → HS → Prop} (hk : ∀ J, FrS (setR I 762 (shf G (6 + 2 * p) (6 + 2 * n) 2)) J → Run mi_M_gone d 0 0 159 [(0, .ref 761), (1, .int key), (2, .int (nI p)), (3, .int (nI n))] [] (J, R, L, sh, N) Q) : ∀ (n_ : Nat) (i : Nat) (J : Nat → Nat → Int32), 2 * n - i = n_ → (FrS (setR I 762 (shf G (6 + 2 * p) (6 + i) 2)) J) → (2 * p ≤ i ∧ i ≤ 2 * n) → Run mi_M_gone d 0 0 123 [(0, .ref 761), (1, .int key), (2, .int (nI p)), (3, .int (nI n)), (4, .int (nI i))] [] (J, R, L, sh, N) Q := by
  intro n_
  induction n_ using Nat.strongRecOn with | ind n_ ih_ => ?_
  intro i J hn_ v0_ v1_
  refine r_iload (pc2 := 125) d_M_gone_123 rfl rfl ?_
  refine r_iconst (v := nI 2) (pc2 := 126) d_M_gone_125 rfl (by decide) ?_
  refine r_iload_n (pc2 := 127) d_M_gone_126 rfl rfl ?_
  refine q_imulN (pc2 := 128) d_M_gone_127 rfl ?_
  refine q_icmp_ge (tgt := 159) (A := ((i : Nat) : Int)) (B := ((2 * n : Nat) : Int)) (pc2 := 131) d_M_gone_128 rfl rfl (nI_toInt (by omega)) (nI_toInt (by omega)) (fun c1 => ?_) (fun c1 => ?_)
  · refine Run.sub (l2 := [(0, .ref 761), (1, .int key), (2, .int (nI p)), (3, .int (nI n))]) ⟨rfl, rfl, rfl, rfl, trivial⟩ ?_
    exact hk J (by rw [show i = 2 * n by omega] at v0_; exact v0_)
  · refine r_aload_n (x := some 761) (pc2 := 132) d_M_gone_131 rfl rfl ?_
    refine q_getR (x := some 762) (pc2 := 135) d_M_gone_132 rfl k_M_9 rfl (sh_761 hS) (rf_761_0 hR) ?_
    refine r_bipush (v := nI 6) (pc2 := 137) d_M_gone_135 rfl (by decide) ?_
    refine r_iload (pc2 := 139) d_M_gone_137 rfl rfl ?_
    refine q_iaddN (pc2 := 140) d_M_gone_139 rfl ?_
    refine r_aload_n (x := some 761) (pc2 := 141) d_M_gone_140 rfl rfl ?_
    refine q_getR (x := some 762) (pc2 := 144) d_M_gone_141 rfl k_M_9 rfl (sh_761 hS) (rf_761_0 hR) ?_
    refine r_bipush (v := nI 6) (pc2 := 146) d_M_gone_144 rfl (by decide) ?_
    refine r_iload (pc2 := 148) d_M_gone_146 rfl rfl ?_
    refine q_iaddN (pc2 := 149) d_M_gone_148 rfl ?_
    refine r_iconst (v := nI 2) (pc2 := 150) d_M_gone_149 rfl (by decide) ?_
    refine q_iaddN (pc2 := 151) d_M_gone_150 rfl ?_
    refine q_iaload (q := 6 + i + 2) (x := G (6 + i + 2)) (pc2 := 152) d_M_gone_151 rfl (sh_762 hS) (nI_toInt (by omega)) (by omega) ((congrFun v0_.row2 _).trans (shf_o (by omega))) ?_
    refine q_iastore (q := 6 + i) (pc2 := 153) d_M_gone_152 rfl (sh_762 hS) (nI_toInt (by omega)) (by omega) (fun I2 hI2 => ?_)
    refine q_iinc (b := 1) (pc2 := 156) d_M_gone_153 rfl rfl (by decide) (Nat.le_of_ble_eq_true rfl) ?_
    refine r_goto (tgt := 123) d_M_gone_156 rfl ?_
    refine Run.sub (l2 := [(0, .ref 761), (1, .int key), (2, .int (nI p)), (3, .int (nI n)), (4, .int (nI (i + 1)))]) ⟨rfl, rfl, rfl, rfl, rfl, trivial⟩ ?_
    exact ih_ (2 * n - (i + 1)) (by omega) (i + 1) I2 rfl (setR_shf v0_ hI2 rfl (by omega) (by omega) (by omega)) (by omega)
theorem l_M_gone_29 {d : Nat} {I : Nat → Nat → Int32} {R : Nat → Nat → Option Nat} {L : Nat → Nat → Int64} {sh : Nat → Nat × Nat} {N : Nat} (hS : ShOK sh) (hR : RfOK R) {kA fA cA gA nk nt : Nat} (hT : TRf R sh kA fA cA gA nk) (hTn : TNe kA fA cA gA) (hV : TV (I kA) (I fA) (I cA) nt) (hnt : nt ≤ nk) (hnk : nk ≤ 1000000) {nP nF : Nat} (hW : WFA (I 762) nP nF nt) {rk : Nat → Nat} (hrk : RK (I 762) nF rk) {p n : Nat} (hpn : p ≤ n) (hn : n < 24) {key : Int32} (hd : 3 ≤ d) {Q : Option Value → HS → Prop} (hk : ∀ J, FrS (setR I 762 (goneF (I 762) key p n nF)) J → Run mi_M_gone d 0 0 118 [(0, .ref 761), (1, .int key), (2, .int (nI p)), (3, .int (nI n))] [] (J, R, L, sh, N) Q) : ∀ (n_ : Nat) (i : Nat) (J : Nat → Nat → Int32), nF - i = n_ → (FrS (setR I 762 (goneF (I 762) key p n i)) J) → (i ≤ nF) → Run mi_M_gone d 0 0 29 [(0, .ref 761), (1, .int key), (2, .int (nI p)), (3, .int (nI n)), (4, .int (nI i))] [] (J, R, L, sh, N) Q := by
  intro n_
  induction n_ using Nat.strongRecOn with | ind n_ ih_ => ?_
  intro i J hn_ v0_ v1_
  obtain ⟨hPc, hP24, hFc, hF12, hWF, hWP⟩ := id hW
  have h6 : ∀ F, F < nF → (I 762 (174 + 84 * F + 6)).toInt.toNat ≤ 8 := fun F hF => by
    obtain ⟨-, -, -, -, -, -, q, -⟩ := hWF F hF; omega
  have hF1 : goneF (I 762) key p n i 1 = nI nF := by rw [goneF_o (by omega) (fun F hF => h6 F (by omega)) (by omega)]; exact hFc
  refine r_iload (pc2 := 31) d_M_gone_29 rfl rfl ?_
  refine r_aload_n (x := some 761) (pc2 := 32) d_M_gone_31 rfl rfl ?_
  refine q_getR (x := some 762) (pc2 := 35) d_M_gone_32 rfl k_M_9 rfl (sh_761 hS) (rf_761_0 hR) ?_
  refine r_iconst (v := nI 1) (pc2 := 36) d_M_gone_35 rfl (by decide) ?_
  refine q_iaload (q := 1) (x := nI nF) (pc2 := 37) d_M_gone_36 rfl (sh_762 hS) (nI_toInt (by omega)) (by omega) ((congrFun v0_.row2 _).trans (hF1)) ?_
  refine q_icmp_ge (tgt := 118) (A := ((i : Nat) : Int)) (B := ((nF : Nat) : Int)) (pc2 := 40) d_M_gone_37 rfl rfl (nI_toInt (by omega)) (nI_toInt (by omega)) (fun c1 => ?_) (fun c1 => ?_)
  · refine Run.sub (l2 := [(0, .ref 761), (1, .int key), (2, .int (nI p)), (3, .int (nI n))]) ⟨rfl, rfl, rfl, rfl, trivial⟩ ?_
    exact hk J (by rw [show i = nF by omega] at v0_; exact v0_)
  · obtain ⟨tp, kl, sk, fb, nR, nN, nO, fr, to, -, -, -, -, -, -, ⟨hO0, hO1, hO2, -⟩, -, -⟩ := wfn (hWF i (by omega))
    have hO : goneF (I 762) key p n i (174 + 84 * i + 6) = nI nO := by rw [goneF_o (by omega) (fun F hF => h6 F (by omega)) (by omega)]; exact hO0
    have bO : (goneF (I 762) key p n i (174 + 84 * i + 6)).toInt = (nO : Int) := by rw [hO, nI_toInt (by omega)]
    refine r_aload_n (x := some 761) (pc2 := 41) d_M_gone_40 rfl rfl ?_
    refine r_iload (pc2 := 43) d_M_gone_41 rfl rfl ?_
    refine r_iload_n (pc2 := 44) d_M_gone_43 rfl rfl ?_
    refine q_callv (M2 := mi_M_overrideOf) (pc2 := 47) d_M_gone_44 rfl k_M_179 cm_M_overrideOf cv_M_overrideOf (sh_761 hS) (by decide) rfl rfl rfl (Nat.le_of_ble_eq_true rfl) (c_M_overrideOf (I := J) (F := i) (nO := nO) (key := key) hS hR (by omega) ((congrFun v0_.row2 _).trans (hO)) (by omega) (by omega)) (d2 := d - 1) (by omega) (Nat.le_of_eq (Nat.zero_add _)) (Nat.le_of_eq (Nat.zero_add _)) ?_
    refine q_top (y := vo (oB (goneF (I 762) key p n i) i nO key)) (by rw [v0_.row2]) ?_
    cases hoko : oB (goneF (I 762) key p n i) i nO key with
    | none =>
      refine r_istore (pc2 := 49) d_M_gone_47 rfl (Nat.le_of_ble_eq_true rfl) ?_
      refine r_iload (pc2 := 51) d_M_gone_49 rfl rfl ?_
      refine q_if_lt (tgt := 62) (A := (-1 : Int)) (pc2 := 54) d_M_gone_51 rfl rfl (by decide) (fun c2 => ?_) (fun c2 => ?_)
      rotate_left
      · exfalso; omega
      refine r_iload_n (pc2 := 63) d_M_gone_62 rfl rfl ?_
      refine r_istore (pc2 := 65) d_M_gone_63 rfl (Nat.le_of_ble_eq_true rfl) ?_
      refine Run.sub (l2 := [(0, .ref 761), (1, .int key), (2, .int (nI p)), (3, .int (nI n)), (4, .int (nI i)), (5, .int ((-1 : Int32))), (6, .int (nI p))]) ⟨rfl, rfl, rfl, rfl, rfl, rfl, rfl, trivial⟩ ?_
      refine l_M_gone_65 hS hR (F := i) (p := p) (n := n) (key := key) (G := goneF (I 762) key p n i) (by omega) (by omega) (by omega) (hk := fun J3 hJ3 => ?_) _ p J rfl (by rw [shf_0]; exact v0_) (by omega)
      have hGJ3 := hJ3.row2
      refine r_aload_n (x := some 761) (pc2 := 102) d_M_gone_101 rfl rfl ?_
      refine r_iload (pc2 := 104) d_M_gone_102 rfl rfl ?_
      refine r_bipush (v := nI 36) (pc2 := 106) d_M_gone_104 rfl (by decide) ?_
      refine r_iload_n (pc2 := 107) d_M_gone_106 rfl rfl ?_
      refine q_iaddN (pc2 := 108) d_M_gone_107 rfl ?_
      refine r_iconst (v := nI 0) (pc2 := 109) d_M_gone_108 rfl (by decide) ?_
      refine q_callvV (M2 := mi_M_is) (pc2 := 112) d_M_gone_109 rfl k_M_157 cm_M_is cv_M_is (sh_761 hS) (by decide) rfl rfl rfl (Nat.le_of_ble_eq_true rfl) (c_M_is (I := J3) (F := i) (W := 36 + n) (v := nI 0) hS hR (by omega)) (d2 := d - 1) (by omega) (Nat.le_of_eq (Nat.zero_add _)) (Nat.le_of_eq (Nat.zero_add _)) ?_
      obtain ⟨I4, hI4⟩ : ∃ x, x = u2 J3 762 (174 + 84 * i + (36 + n)) (nI 0) := ⟨_, rfl⟩
      rw [← hI4]
      refine q_iinc (b := 1) (pc2 := 115) d_M_gone_112 rfl rfl (by decide) (Nat.le_of_ble_eq_true rfl) ?_
      refine r_goto (tgt := 29) d_M_gone_115 rfl ?_
      have hfin := (setR_put hJ3 hI4)
      refine Run.sub (l2 := [(0, .ref 761), (1, .int key), (2, .int (nI p)), (3, .int (nI n)), (4, .int (nI (i + 1)))]) ⟨rfl, rfl, rfl, rfl, rfl, trivial⟩ ?_
      exact ih_ (nF - (i + 1)) (by omega) (i + 1) I4 rfl (by
        have e : goneF (I 762) key p n (i + 1) = gone1 (goneF (I 762) key p n i) key p n i := rfl
        rw [e]; unfold gone1; simp only [bO, Int.toNat_natCast]; rw [hoko]; exact hfin) (by omega)
    | some ko =>
      obtain ⟨hpko, hqko, -⟩ := fst1_spec (show fst1 _ _ = some ko from hoko)
      refine r_istore (pc2 := 49) d_M_gone_47 rfl (Nat.le_of_ble_eq_true rfl) ?_
      refine r_iload (pc2 := 51) d_M_gone_49 rfl rfl ?_
      refine q_if_lt (tgt := 62) (A := ((ko : Nat) : Int)) (pc2 := 54) d_M_gone_51 rfl rfl (nI_toInt (by omega)) (fun c5 => ?_) (fun c5 => ?_)
      · exfalso; omega
      refine r_aload_n (x := some 761) (pc2 := 55) d_M_gone_54 rfl rfl ?_
      refine r_iload (pc2 := 57) d_M_gone_55 rfl rfl ?_
      refine r_iload (pc2 := 59) d_M_gone_57 rfl rfl ?_
      refine r_callv (M2 := mi_M_loses) (pc2 := 62) d_M_gone_59 rfl k_M_216 cm_M_loses cv_M_loses (sh_761 hS) (by decide) rfl rfl rfl (Nat.le_of_ble_eq_true rfl) (c_M_loses (I := J) (F := i) (k := ko) (nO := nO) hS hR (by omega) ((congrFun v0_.row2 _).trans (hO)) (by omega) (by omega) (d := d - 1) (by omega)) (d2 := d - 1) (by omega) (Nat.le_of_eq (Nat.zero_add _)) (Nat.le_of_eq (Nat.zero_add _)) (fun r2 h2 hq2 => ?_)
      obtain ⟨rfl, J6, rfl, hJ6⟩ := hq2
      change Run _ _ _ _ _ _ [] _ _
      rw [show J 762 = goneF (I 762) key p n i from v0_.row2] at hJ6
      have hJ6 := FrS.setR_tr v0_ hJ6
      have hGJ6 := hJ6.row2
      refine r_iload_n (pc2 := 63) d_M_gone_62 rfl rfl ?_
      refine r_istore (pc2 := 65) d_M_gone_63 rfl (Nat.le_of_ble_eq_true rfl) ?_
      refine Run.sub (l2 := [(0, .ref 761), (1, .int key), (2, .int (nI p)), (3, .int (nI n)), (4, .int (nI i)), (5, .int (nI ko)), (6, .int (nI p))]) ⟨rfl, rfl, rfl, rfl, rfl, rfl, rfl, trivial⟩ ?_
      refine l_M_gone_65 hS hR (F := i) (p := p) (n := n) (key := key) (G := g_loses (goneF (I 762) key p n i) i ko) (by omega) (by omega) (by omega) (hk := fun J7 hJ7 => ?_) _ p J6 rfl (by rw [shf_0]; exact hJ6) (by omega)
      have hGJ7 := hJ7.row2
      refine r_aload_n (x := some 761) (pc2 := 102) d_M_gone_101 rfl rfl ?_
      refine r_iload (pc2 := 104) d_M_gone_102 rfl rfl ?_
      refine r_bipush (v := nI 36) (pc2 := 106) d_M_gone_104 rfl (by decide) ?_
      refine r_iload_n (pc2 := 107) d_M_gone_106 rfl rfl ?_
      refine q_iaddN (pc2 := 108) d_M_gone_107 rfl ?_
      refine r_iconst (v := nI 0) (pc2 := 109) d_M_gone_108 rfl (by decide) ?_
      refine q_callvV (M2 := mi_M_is) (pc2 := 112) d_M_gone_109 rfl k_M_157 cm_M_is cv_M_is (sh_761 hS) (by decide) rfl rfl rfl (Nat.le_of_ble_eq_true rfl) (c_M_is (I := J7) (F := i) (W := 36 + n) (v := nI 0) hS hR (by omega)) (d2 := d - 1) (by omega) (Nat.le_of_eq (Nat.zero_add _)) (Nat.le_of_eq (Nat.zero_add _)) ?_
      obtain ⟨I8, hI8⟩ : ∃ x, x = u2 J7 762 (174 + 84 * i + (36 + n)) (nI 0) := ⟨_, rfl⟩
      rw [← hI8]
      refine q_iinc (b := 1) (pc2 := 115) d_M_gone_112 rfl rfl (by decide) (Nat.le_of_ble_eq_true rfl) ?_
      refine r_goto (tgt := 29) d_M_gone_115 rfl ?_
      have hfin := (setR_put hJ7 hI8)
      refine Run.sub (l2 := [(0, .ref 761), (1, .int key), (2, .int (nI p)), (3, .int (nI n)), (4, .int (nI (i + 1)))]) ⟨rfl, rfl, rfl, rfl, rfl, trivial⟩ ?_
      exact ih_ (nF - (i + 1)) (by omega) (i + 1) I8 rfl (by
        have e : goneF (I 762) key p n (i + 1) = gone1 (goneF (I 762) key p n i) key p n i := rfl
        rw [e]; unfold gone1; simp only [bO, Int.toNat_natCast]; rw [hoko]; exact hfin) (by omega)
theorem c_M_gone {d : Nat} {I : Nat → Nat → Int32} {R : Nat → Nat → Option Nat} {L : Nat → Nat → Int64} {sh : Nat → Nat × Nat} {N : Nat} (hS : ShOK sh) (hR : RfOK R) {kA fA cA gA nk nt : Nat} (hT : TRf R sh kA fA cA gA nk) (hTn : TNe kA fA cA gA) (hV : TV (I kA) (I fA) (I cA) nt) (hnt : nt ≤ nk) (hnk : nk ≤ 1000000) {nP nF : Nat} (hW : WFA (I 762) nP nF nt) {rk : Nat → Nat} (hrk : RK (I 762) nF rk) {key : Int32} (hd : nt + 60 ≤ d) : Mt mi_M_gone d 0 0 [.ref 761, .int key] (I, R, L, sh, N) (RQW I R L sh N (o_gone (I 762) nP key) (g_gone (I 762) nP nF key)) := by
  obtain ⟨hPc, hP24, hFc, hF12, hWF, hWP⟩ := id hW
  obtain ⟨hn1, hn2, hn3, hn4⟩ := id hTn
  refine Mt.of pn_M (Nat.le_of_ble_eq_true rfl) ?_
  show Run mi_M_gone d 0 0 0 [(0, .ref 761), (1, .int key)] [] (I, R, L, sh, N) _
  refine r_aload_n (x := some 761) (pc2 := 1) d_M_gone_0 rfl rfl ?_
  refine r_iload_n (pc2 := 2) d_M_gone_1 rfl rfl ?_
  refine q_callv (M2 := mi_M_personBy) (pc2 := 5) d_M_gone_2 rfl k_M_204 cm_M_personBy cv_M_personBy (sh_761 hS) (by decide) rfl rfl rfl (Nat.le_of_ble_eq_true rfl) (c_M_personBy (I := I) (nP := nP) (key := key) hS hR (hPc) hP24 (by omega)) (d2 := d - 1) (by omega) (Nat.le_of_eq (Nat.zero_add _)) (Nat.le_of_eq (Nat.zero_add _)) ?_
  cases hopkkey : pB (I 762) nP key with
  | none =>
    refine r_istore_n (pc2 := 6) d_M_gone_5 rfl rfl (Nat.le_of_ble_eq_true rfl) ?_
    refine r_iload_n (pc2 := 7) d_M_gone_6 rfl rfl ?_
    refine q_if_ge (tgt := 17) (A := (-1 : Int)) (pc2 := 10) d_M_gone_7 rfl rfl (by decide) (fun c1 => ?_) (fun c1 => ?_)
    · exfalso; omega
    refine r_aload_n (x := some 761) (pc2 := 11) d_M_gone_10 rfl rfl ?_
    refine r_bipush (v := (-32 : Int32)) (pc2 := 13) d_M_gone_11 rfl (by decide) ?_
    refine q_callv (M2 := mi_M_refused) (pc2 := 16) d_M_gone_13 rfl k_M_106 cm_M_refused cv_M_refused (sh_761 hS) (by decide) rfl rfl rfl (Nat.le_of_ble_eq_true rfl) (c_M_refused_0 (I := I) hS hR) (d2 := d - 1) (by omega) (Nat.le_of_eq (Nat.zero_add _)) (Nat.le_of_eq (Nat.zero_add _)) ?_
    obtain ⟨I2, hI2⟩ : ∃ x, x = u2 I 765 0 (I 765 0 + nI 1) := ⟨_, rfl⟩
    rw [← hI2]
    refine Run.ret (some (.int ((-32 : Int32)))) d_M_gone_16 ⟨_, rfl⟩ ?_
    exact RQW.bad 0 (by (unfold o_gone); (try dsimp only); (try simp only [g_gone1, Int.toNat_natCast]); (repeat (first | rw [if_pos (by omega)] | rw [if_neg (by omega)] | (rw [hopkkey]; try dsimp only))); (try rfl); (all_goals first | rfl | ((repeat' split) <;> first | rfl | (exfalso; omega) | skip)); (try rfl)) (by (unfold g_gone); (try dsimp only); (try simp only [g_gone1, Int.toNat_natCast]); (repeat (first | rw [if_pos (by omega)] | rw [if_neg (by omega)] | (rw [hopkkey]; try dsimp only))); (try rfl); (all_goals first | rfl | ((repeat' split) <;> first | rfl | (exfalso; omega) | skip)); (try rfl)) (by decide) FrS.rf hI2
  | some pkkey =>
    obtain ⟨hppkkey, hqpkkey, -⟩ := fst1_spec (show fst1 _ _ = some pkkey from hopkkey)
    refine r_istore_n (pc2 := 6) d_M_gone_5 rfl rfl (Nat.le_of_ble_eq_true rfl) ?_
    refine r_iload_n (pc2 := 7) d_M_gone_6 rfl rfl ?_
    refine q_if_ge (tgt := 17) (A := ((pkkey : Nat) : Int)) (pc2 := 10) d_M_gone_7 rfl rfl (nI_toInt (by omega)) (fun c3 => ?_) (fun c3 => ?_)
    rotate_left
    · exfalso; omega
    refine r_aload_n (x := some 761) (pc2 := 18) d_M_gone_17 rfl rfl ?_
    refine q_getR (x := some 762) (pc2 := 21) d_M_gone_18 rfl k_M_9 rfl (sh_761 hS) (rf_761_0 hR) ?_
    refine r_iconst (v := nI 0) (pc2 := 22) d_M_gone_21 rfl (by decide) ?_
    refine q_iaload (q := 0) (x := nI nP) (pc2 := 23) d_M_gone_22 rfl (sh_762 hS) (nI_toInt (by omega)) (by omega) hPc ?_
    refine r_iconst (v := nI 1) (pc2 := 24) d_M_gone_23 rfl (by decide) ?_
    refine q_isubN (pc2 := 25) d_M_gone_24 rfl (by omega) ?_
    refine r_istore_n (pc2 := 26) d_M_gone_25 rfl rfl (Nat.le_of_ble_eq_true rfl) ?_
    refine r_iconst (v := nI 0) (pc2 := 27) d_M_gone_26 rfl (by decide) ?_
    refine r_istore (pc2 := 29) d_M_gone_27 rfl (Nat.le_of_ble_eq_true rfl) ?_
    refine Run.sub (l2 := [(0, .ref 761), (1, .int key), (2, .int (nI pkkey)), (3, .int (nI (nP - 1))), (4, .int (nI 0))]) ⟨rfl, rfl, rfl, rfl, rfl, trivial⟩ ?_
    refine l_M_gone_29 hS hR hT hTn hV hnt hnk hW hrk (p := pkkey) (n := nP - 1) (key := key) (by omega) (by omega) (by omega) (hk := fun J4 hJ4 => ?_) _ 0 I rfl FrS.rf.set (by omega)
    have hGJ4 := hJ4.row2
    refine r_iconst (v := nI 2) (pc2 := 119) d_M_gone_118 rfl (by decide) ?_
    refine r_iload_n (pc2 := 120) d_M_gone_119 rfl rfl ?_
    refine q_imulN (pc2 := 121) d_M_gone_120 rfl ?_
    refine r_istore (pc2 := 123) d_M_gone_121 rfl (Nat.le_of_ble_eq_true rfl) ?_
    refine Run.sub (l2 := [(0, .ref 761), (1, .int key), (2, .int (nI pkkey)), (3, .int (nI (nP - 1))), (4, .int (nI (2 * pkkey)))]) ⟨rfl, rfl, rfl, rfl, rfl, trivial⟩ ?_
    refine l_M_gone_123 hS hR (p := pkkey) (n := nP - 1) (key := key) (G := goneF (I 762) key pkkey (nP - 1) nF) (by omega) (by omega) (hk := fun J5 hJ5 => ?_) _ (2 * pkkey) J4 rfl (by rw [shf_0]; exact hJ4) (by omega)
    have hGJ5 := hJ5.row2
    refine r_aload_n (x := some 761) (pc2 := 160) d_M_gone_159 rfl rfl ?_
    refine q_getR (x := some 762) (pc2 := 163) d_M_gone_160 rfl k_M_9 rfl (sh_761 hS) (rf_761_0 hR) ?_
    refine r_iconst (v := nI 0) (pc2 := 164) d_M_gone_163 rfl (by decide) ?_
    refine r_iload_n (pc2 := 165) d_M_gone_164 rfl rfl ?_
    refine q_iastore (q := 0) (pc2 := 166) d_M_gone_165 rfl (sh_762 hS) (nI_toInt (by omega)) (by omega) (fun I6 hI6 => ?_)
    refine r_iload_n (pc2 := 167) d_M_gone_166 rfl rfl ?_
    refine Run.ret (some (.int (nI (nP - 1)))) d_M_gone_167 ⟨_, rfl⟩ ?_
    exact RQW.val (by (unfold o_gone); (try dsimp only); (try simp only [g_gone1, Int.toNat_natCast]); (repeat (first | rw [if_pos (by omega)] | rw [if_neg (by omega)] | (rw [hopkkey]; try dsimp only))); (try rfl); (all_goals first | rfl | ((repeat' split) <;> first | rfl | (exfalso; omega) | skip))) (by (unfold g_gone); (try dsimp only); (try simp only [g_gone1, Int.toNat_natCast]); (repeat (first | rw [if_pos (by omega)] | rw [if_neg (by omega)] | (rw [hopkkey]; try dsimp only))); exact (setR_put hJ5 hI6))
theorem c_M_override {d : Nat} {I : Nat → Nat → Int32} {R : Nat → Nat → Option Nat} {L : Nat → Nat → Int64} {sh : Nat → Nat × Nat} {N : Nat} (hS : ShOK sh) (hR : RfOK R) {kA fA cA gA nk nt : Nat} (hT : TRf R sh kA fA cA gA nk) (hTn : TNe kA fA cA gA) (hV : TV (I kA) (I fA) (I cA) nt) (hnt : nt ≤ nk) (hnk : nk ≤ 1000000) {nP nF : Nat} (hW : WFA (I 762) nP nF nt) {rk : Nat → Nat} (hrk : RK (I 762) nF rk) {f : Int32} {key : Int32} {v : Int32} (hd : nt + 60 ≤ d) : Mt mi_M_override d 0 0 [.ref 761, .int f, .int key, .int v] (I, R, L, sh, N) (RQW I R L sh N (o_override (I 762) nP nF f key v) (g_override (I 762) nP nF f key v)) := by
  obtain ⟨hPc, hP24, hFc, hF12, hWF, hWP⟩ := id hW
  obtain ⟨hn1, hn2, hn3, hn4⟩ := id hTn
  refine Mt.of pn_M (Nat.le_of_ble_eq_true rfl) ?_
  show Run mi_M_override d 0 0 0 [(0, .ref 761), (1, .int f), (2, .int key), (3, .int v)] [] (I, R, L, sh, N) _
  refine r_aload_n (x := some 761) (pc2 := 1) d_M_override_0 rfl rfl ?_
  refine r_iload_n (pc2 := 2) d_M_override_1 rfl rfl ?_
  refine q_callv (M2 := mi_M_isFeature) (pc2 := 5) d_M_override_2 rfl k_M_72 cm_M_isFeature cv_M_isFeature (sh_761 hS) (by decide) rfl rfl rfl (Nat.le_of_ble_eq_true rfl) (c_M_isFeature (I := I) (nF := nF) (f := f) hS hR (hFc) hF12 (by omega)) (d2 := d - 1) (by omega) (Nat.le_of_eq (Nat.zero_add _)) (Nat.le_of_eq (Nat.zero_add _)) ?_
  refine q_bif_eq (tgt := 30) (pc2 := 8) d_M_override_5 rfl rfl (fun c1 => ?_) (fun c1 => ?_)
  · refine r_aload_n (x := some 761) (pc2 := 31) d_M_override_30 rfl rfl ?_
    refine r_bipush (v := (-32 : Int32)) (pc2 := 33) d_M_override_31 rfl (by decide) ?_
    refine q_callv (M2 := mi_M_refused) (pc2 := 36) d_M_override_33 rfl k_M_106 cm_M_refused cv_M_refused (sh_761 hS) (by decide) rfl rfl rfl (Nat.le_of_ble_eq_true rfl) (c_M_refused_0 (I := I) hS hR) (d2 := d - 1) (by omega) (Nat.le_of_eq (Nat.zero_add _)) (Nat.le_of_eq (Nat.zero_add _)) ?_
    obtain ⟨I2, hI2⟩ : ∃ x, x = u2 I 765 0 (I 765 0 + nI 1) := ⟨_, rfl⟩
    rw [← hI2]
    refine Run.ret (some (.int ((-32 : Int32)))) d_M_override_36 ⟨_, rfl⟩ ?_
    first | (exfalso; omega) | exact RQW.bad 0 (by (unfold o_override); (try dsimp only); (try simp only [Int.toNat_natCast]); (repeat (first | rw [if_pos (by omega)] | rw [if_neg (by omega)])); (try rfl); (all_goals first | rfl | ((repeat' split) <;> first | rfl | (exfalso; omega) | skip)); (try rfl)) (by (unfold g_override); (try dsimp only); (try simp only [Int.toNat_natCast]); (repeat (first | rw [if_pos (by omega)] | rw [if_neg (by omega)])); (try rfl); (all_goals first | rfl | ((repeat' split) <;> first | rfl | (exfalso; omega) | skip)); (try rfl)) (by decide) FrS.rf hI2
  · obtain ⟨fN, hfN, rfl, efN⟩ := nat_of c1
    obtain ⟨tpfN, klfN, skfN, fbfN, nRfN, nNfN, nOfN, frfN, tofN, ⟨a0fN, b0fN, cc0fN, dd0fN⟩, ⟨a1fN, b1fN, cc1fN, dd1fN⟩, ⟨a2fN, b2fN, cc2fN, dd2fN⟩, ⟨a3fN, b3fN, cc3fN, dd3fN⟩, ⟨a4fN, b4fN, cc4fN, dd4fN⟩, ⟨a5fN, b5fN, cc5fN, dd5fN⟩, ⟨a6fN, b6fN, cc6fN, dd6fN⟩, ⟨a8fN, b8fN, cc8fN, dd8fN⟩, ⟨a9fN, b9fN, cc9fN, dd9fN⟩⟩ := wfn (hWF fN hfN)
    obtain ⟨-, -, -, -, -, -, -, w7fN, -, -, wNfN, wRfN, wKfN, wOfN⟩ := hWF fN hfN
    refine r_iload_n (pc2 := 9) d_M_override_8 rfl rfl ?_
    refine r_iconst (v := (-1 : Int32)) (pc2 := 10) d_M_override_9 rfl (by decide) ?_
    refine q_icmp_eq (tgt := 22) (A := v.toInt) (B := (-1 : Int)) (pc2 := 13) d_M_override_10 rfl rfl (rfl) (by decide) (fun c3 => ?_) (fun c3 => ?_)
    · refine r_aload_n (x := some 761) (pc2 := 23) d_M_override_22 rfl rfl ?_
      refine r_iload_n (pc2 := 24) d_M_override_23 rfl rfl ?_
      refine q_callv (M2 := mi_M_personBy) (pc2 := 27) d_M_override_24 rfl k_M_204 cm_M_personBy cv_M_personBy (sh_761 hS) (by decide) rfl rfl rfl (Nat.le_of_ble_eq_true rfl) (c_M_personBy (I := I) (nP := nP) (key := key) hS hR (hPc) hP24 (by omega)) (d2 := d - 1) (by omega) (Nat.le_of_eq (Nat.zero_add _)) (Nat.le_of_eq (Nat.zero_add _)) ?_
      cases hopkkey : pB (I 762) nP key with
      | none =>
        refine q_if_ge (tgt := 37) (A := (-1 : Int)) (pc2 := 30) d_M_override_27 rfl rfl (by decide) (fun c4 => ?_) (fun c4 => ?_)
        · exfalso; omega
        refine r_aload_n (x := some 761) (pc2 := 31) d_M_override_30 rfl rfl ?_
        refine r_bipush (v := (-32 : Int32)) (pc2 := 33) d_M_override_31 rfl (by decide) ?_
        refine q_callv (M2 := mi_M_refused) (pc2 := 36) d_M_override_33 rfl k_M_106 cm_M_refused cv_M_refused (sh_761 hS) (by decide) rfl rfl rfl (Nat.le_of_ble_eq_true rfl) (c_M_refused_0 (I := I) hS hR) (d2 := d - 1) (by omega) (Nat.le_of_eq (Nat.zero_add _)) (Nat.le_of_eq (Nat.zero_add _)) ?_
        obtain ⟨I5, hI5⟩ : ∃ x, x = u2 I 765 0 (I 765 0 + nI 1) := ⟨_, rfl⟩
        rw [← hI5]
        refine Run.ret (some (.int ((-32 : Int32)))) d_M_override_36 ⟨_, rfl⟩ ?_
        first | (exfalso; omega) | exact RQW.bad 0 (by (try simp only [efN, b0fN, b1fN, b2fN, b3fN, b4fN, b5fN, b6fN, b8fN, b9fN, Int.toNat_natCast] at c1 c3); (unfold o_override); (try dsimp only); (try simp only [efN, b0fN, b1fN, b2fN, b3fN, b4fN, b5fN, b6fN, b8fN, b9fN, Int.toNat_natCast]); (repeat (first | rw [if_pos (by omega)] | rw [if_neg (by omega)] | (rw [hopkkey]; try dsimp only))); (try rfl); (all_goals first | rfl | (simp only [a0fN, a1fN, a2fN, a3fN, a4fN, a5fN, a6fN, a8fN, a9fN]; done) | ((repeat' split) <;> first | rfl | (simp only [a0fN, a1fN, a2fN, a3fN, a4fN, a5fN, a6fN, a8fN, a9fN]; done) | (exfalso; omega) | skip)); (try rfl)) (by (try simp only [efN, b0fN, b1fN, b2fN, b3fN, b4fN, b5fN, b6fN, b8fN, b9fN, Int.toNat_natCast] at c1 c3); (unfold g_override); (try dsimp only); (try simp only [efN, b0fN, b1fN, b2fN, b3fN, b4fN, b5fN, b6fN, b8fN, b9fN, Int.toNat_natCast]); (repeat (first | rw [if_pos (by omega)] | rw [if_neg (by omega)] | (rw [hopkkey]; try dsimp only))); (try rfl); (all_goals first | rfl | (simp only [a0fN, a1fN, a2fN, a3fN, a4fN, a5fN, a6fN, a8fN, a9fN]; done) | ((repeat' split) <;> first | rfl | (simp only [a0fN, a1fN, a2fN, a3fN, a4fN, a5fN, a6fN, a8fN, a9fN]; done) | (exfalso; omega) | skip)); (try rfl)) (by decide) FrS.rf hI5
      | some pkkey =>
        obtain ⟨hppkkey, hqpkkey, -⟩ := fst1_spec (show fst1 _ _ = some pkkey from hopkkey)
        refine q_if_ge (tgt := 37) (A := ((pkkey : Nat) : Int)) (pc2 := 30) d_M_override_27 rfl rfl (nI_toInt (by omega)) (fun c6 => ?_) (fun c6 => ?_)
        rotate_left
        · exfalso; omega
        refine r_aload_n (x := some 761) (pc2 := 38) d_M_override_37 rfl rfl ?_
        refine r_iload_n (pc2 := 39) d_M_override_38 rfl rfl ?_
        refine r_iload_n (pc2 := 40) d_M_override_39 rfl rfl ?_
        refine q_callv (M2 := mi_M_overrideOf) (pc2 := 43) d_M_override_40 rfl k_M_179 cm_M_overrideOf cv_M_overrideOf (sh_761 hS) (by decide) rfl rfl rfl (Nat.le_of_ble_eq_true rfl) (c_M_overrideOf (I := I) (F := fN) (nO := nOfN) (key := key) hS hR (by omega) (a6fN) (by omega) (by omega)) (d2 := d - 1) (by omega) (Nat.le_of_eq (Nat.zero_add _)) (Nat.le_of_eq (Nat.zero_add _)) ?_
        cases hoko : oB (I 762) fN nOfN key with
        | none =>
          refine r_istore (pc2 := 45) d_M_override_43 rfl (Nat.le_of_ble_eq_true rfl) ?_
          refine r_iload (pc2 := 47) d_M_override_45 rfl rfl ?_
          refine q_if_ge (tgt := 54) (A := (-1 : Int)) (pc2 := 50) d_M_override_47 rfl rfl (by decide) (fun c7 => ?_) (fun c7 => ?_)
          · exfalso; omega
          refine r_iconst (v := (-1 : Int32)) (pc2 := 51) d_M_override_50 rfl (by decide) ?_
          refine r_goto (tgt := 68) d_M_override_51 rfl ?_
          refine r_istore (pc2 := 70) d_M_override_68 rfl (Nat.le_of_ble_eq_true rfl) ?_
          refine r_iload_n (pc2 := 71) d_M_override_70 rfl rfl ?_
          refine r_iconst (v := (-1 : Int32)) (pc2 := 72) d_M_override_71 rfl (by decide) ?_
          refine q_icmp_ne (tgt := 90) (A := v.toInt) (B := (-1 : Int)) (pc2 := 75) d_M_override_72 rfl rfl (rfl) (by decide) (fun c8 => ?_) (fun c8 => ?_)
          · refine r_iload (pc2 := 92) d_M_override_90 rfl rfl ?_
            refine q_if_ge (tgt := 142) (A := (-1 : Int)) (pc2 := 95) d_M_override_92 rfl rfl (by decide) (fun c9 => ?_) (fun c9 => ?_)
            · exfalso; omega
            refine r_aload_n (x := some 761) (pc2 := 96) d_M_override_95 rfl rfl ?_
            refine r_iload_n (pc2 := 97) d_M_override_96 rfl rfl ?_
            refine r_bipush (v := nI 6) (pc2 := 99) d_M_override_97 rfl (by decide) ?_
            refine q_callv (M2 := mi_M_of) (pc2 := 102) d_M_override_99 rfl k_M_76 cm_M_of cv_M_of (sh_761 hS) (by decide) rfl rfl rfl (Nat.le_of_ble_eq_true rfl) (c_M_of (I := I) (F := fN) (W := 6) hS hR (by omega)) (d2 := d - 1) (by omega) (Nat.le_of_eq (Nat.zero_add _)) (Nat.le_of_eq (Nat.zero_add _)) ?_
            refine q_top (y := nI nOfN) (a6fN) ?_
            refine r_istore (pc2 := 104) d_M_override_102 rfl (Nat.le_of_ble_eq_true rfl) ?_
            refine r_iload (pc2 := 106) d_M_override_104 rfl rfl ?_
            refine r_bipush (v := nI 8) (pc2 := 108) d_M_override_106 rfl (by decide) ?_
            refine q_icmp_ne (tgt := 118) (A := ((nOfN : Nat) : Int)) (B := (8 : Int)) (pc2 := 111) d_M_override_108 rfl rfl (nI_toInt (by omega)) (nI_toInt (by omega)) (fun c10 => ?_) (fun c10 => ?_)
            · refine r_aload_n (x := some 761) (pc2 := 119) d_M_override_118 rfl rfl ?_
              refine r_iload_n (pc2 := 120) d_M_override_119 rfl rfl ?_
              refine r_bipush (v := nI 20) (pc2 := 122) d_M_override_120 rfl (by decide) ?_
              refine r_iconst (v := nI 2) (pc2 := 123) d_M_override_122 rfl (by decide) ?_
              refine r_iload (pc2 := 125) d_M_override_123 rfl rfl ?_
              refine q_imulN (pc2 := 126) d_M_override_125 rfl ?_
              refine q_iaddN (pc2 := 127) d_M_override_126 rfl ?_
              refine r_iload_n (pc2 := 128) d_M_override_127 rfl rfl ?_
              refine q_callvV (M2 := mi_M_is) (pc2 := 131) d_M_override_128 rfl k_M_157 cm_M_is cv_M_is (sh_761 hS) (by decide) rfl rfl rfl (Nat.le_of_ble_eq_true rfl) (c_M_is (I := I) (F := fN) (W := 20 + 2 * nOfN) (v := key) hS hR (by omega)) (d2 := d - 1) (by omega) (Nat.le_of_eq (Nat.zero_add _)) (Nat.le_of_eq (Nat.zero_add _)) ?_
              obtain ⟨I11, hI11⟩ : ∃ x, x = u2 I 762 (174 + 84 * fN + (20 + 2 * nOfN)) key := ⟨_, rfl⟩
              rw [← hI11]
              refine r_aload_n (x := some 761) (pc2 := 132) d_M_override_131 rfl rfl ?_
              refine r_iload_n (pc2 := 133) d_M_override_132 rfl rfl ?_
              refine r_bipush (v := nI 6) (pc2 := 135) d_M_override_133 rfl (by decide) ?_
              refine r_iload (pc2 := 137) d_M_override_135 rfl rfl ?_
              refine r_iconst (v := nI 1) (pc2 := 138) d_M_override_137 rfl (by decide) ?_
              refine q_iaddN (pc2 := 139) d_M_override_138 rfl ?_
              refine q_callvV (M2 := mi_M_is) (pc2 := 142) d_M_override_139 rfl k_M_157 cm_M_is cv_M_is (sh_761 hS) (by decide) rfl rfl rfl (Nat.le_of_ble_eq_true rfl) (c_M_is (I := I11) (F := fN) (W := 6) (v := nI (nOfN + 1)) hS hR (by omega)) (d2 := d - 1) (by omega) (Nat.le_of_eq (Nat.zero_add _)) (Nat.le_of_eq (Nat.zero_add _)) ?_
              obtain ⟨I12, hI12⟩ : ∃ x, x = u2 I11 762 (174 + 84 * fN + 6) (nI (nOfN + 1)) := ⟨_, rfl⟩
              rw [← hI12]
              refine r_aload_n (x := some 761) (pc2 := 143) d_M_override_142 rfl rfl ?_
              refine r_iload_n (pc2 := 144) d_M_override_143 rfl rfl ?_
              refine r_bipush (v := nI 20) (pc2 := 146) d_M_override_144 rfl (by decide) ?_
              refine r_iconst (v := nI 2) (pc2 := 147) d_M_override_146 rfl (by decide) ?_
              refine r_iload (pc2 := 149) d_M_override_147 rfl rfl ?_
              refine q_imulN (pc2 := 150) d_M_override_149 rfl ?_
              refine q_iaddN (pc2 := 151) d_M_override_150 rfl ?_
              refine r_iconst (v := nI 1) (pc2 := 152) d_M_override_151 rfl (by decide) ?_
              refine q_iaddN (pc2 := 153) d_M_override_152 rfl ?_
              refine r_iload_n (pc2 := 154) d_M_override_153 rfl rfl ?_
              refine q_callvV (M2 := mi_M_is) (pc2 := 157) d_M_override_154 rfl k_M_157 cm_M_is cv_M_is (sh_761 hS) (by decide) rfl rfl rfl (Nat.le_of_ble_eq_true rfl) (c_M_is (I := I12) (F := fN) (W := 20 + 2 * nOfN + 1) (v := v) hS hR (by omega)) (d2 := d - 1) (by omega) (Nat.le_of_eq (Nat.zero_add _)) (Nat.le_of_eq (Nat.zero_add _)) ?_
              obtain ⟨I13, hI13⟩ : ∃ x, x = u2 I12 762 (174 + 84 * fN + (20 + 2 * nOfN + 1)) v := ⟨_, rfl⟩
              rw [← hI13]
              refine r_iload (pc2 := 159) d_M_override_157 rfl rfl ?_
              refine Run.ret (some (.int ((-1 : Int32)))) d_M_override_159 ⟨_, rfl⟩ ?_
              first | (exfalso; omega) | exact RQW.val (by (try simp only [efN, b0fN, b1fN, b2fN, b3fN, b4fN, b5fN, b6fN, b8fN, b9fN, Int.toNat_natCast] at c1 c3 c8 c10); (unfold o_override); (try dsimp only); (try simp only [efN, b0fN, b1fN, b2fN, b3fN, b4fN, b5fN, b6fN, b8fN, b9fN, Int.toNat_natCast]); (repeat (first | rw [if_pos (by omega)] | rw [if_neg (by omega)] | (rw [hopkkey]; try dsimp only) | (rw [hoko]; try dsimp only))); (try rfl); (all_goals first | rfl | (simp only [a0fN, a1fN, a2fN, a3fN, a4fN, a5fN, a6fN, a8fN, a9fN]; done) | ((repeat' split) <;> first | rfl | (simp only [a0fN, a1fN, a2fN, a3fN, a4fN, a5fN, a6fN, a8fN, a9fN]; done) | (exfalso; omega) | skip))) (by (try simp only [efN, b0fN, b1fN, b2fN, b3fN, b4fN, b5fN, b6fN, b8fN, b9fN, Int.toNat_natCast] at c1 c3 c8 c10); (unfold g_override); (try dsimp only); (try simp only [efN, b0fN, b1fN, b2fN, b3fN, b4fN, b5fN, b6fN, b8fN, b9fN, Int.toNat_natCast]); (repeat (first | rw [if_pos (by omega)] | rw [if_neg (by omega)] | (rw [hopkkey]; try dsimp only) | (rw [hoko]; try dsimp only))); exact (setR_put (setR_put (setR_put FrS.rf.set hI11) hI12) hI13))
            · refine r_aload_n (x := some 761) (pc2 := 112) d_M_override_111 rfl rfl ?_
              refine r_bipush (v := (-36 : Int32)) (pc2 := 114) d_M_override_112 rfl (by decide) ?_
              refine q_callv (M2 := mi_M_refused) (pc2 := 117) d_M_override_114 rfl k_M_106 cm_M_refused cv_M_refused (sh_761 hS) (by decide) rfl rfl rfl (Nat.le_of_ble_eq_true rfl) (c_M_refused_4 (I := I) hS hR) (d2 := d - 1) (by omega) (Nat.le_of_eq (Nat.zero_add _)) (Nat.le_of_eq (Nat.zero_add _)) ?_
              obtain ⟨I14, hI14⟩ : ∃ x, x = u2 I 765 4 (I 765 4 + nI 1) := ⟨_, rfl⟩
              rw [← hI14]
              refine Run.ret (some (.int ((-36 : Int32)))) d_M_override_117 ⟨_, rfl⟩ ?_
              first | (exfalso; omega) | exact RQW.bad 4 (by (try simp only [efN, b0fN, b1fN, b2fN, b3fN, b4fN, b5fN, b6fN, b8fN, b9fN, Int.toNat_natCast] at c1 c3 c8 c10); (unfold o_override); (try dsimp only); (try simp only [efN, b0fN, b1fN, b2fN, b3fN, b4fN, b5fN, b6fN, b8fN, b9fN, Int.toNat_natCast]); (repeat (first | rw [if_pos (by omega)] | rw [if_neg (by omega)] | (rw [hopkkey]; try dsimp only) | (rw [hoko]; try dsimp only))); (try rfl); (all_goals first | rfl | (simp only [a0fN, a1fN, a2fN, a3fN, a4fN, a5fN, a6fN, a8fN, a9fN]; done) | ((repeat' split) <;> first | rfl | (simp only [a0fN, a1fN, a2fN, a3fN, a4fN, a5fN, a6fN, a8fN, a9fN]; done) | (exfalso; omega) | skip)); (try rfl)) (by (try simp only [efN, b0fN, b1fN, b2fN, b3fN, b4fN, b5fN, b6fN, b8fN, b9fN, Int.toNat_natCast] at c1 c3 c8 c10); (unfold g_override); (try dsimp only); (try simp only [efN, b0fN, b1fN, b2fN, b3fN, b4fN, b5fN, b6fN, b8fN, b9fN, Int.toNat_natCast]); (repeat (first | rw [if_pos (by omega)] | rw [if_neg (by omega)] | (rw [hopkkey]; try dsimp only) | (rw [hoko]; try dsimp only))); (try rfl); (all_goals first | rfl | (simp only [a0fN, a1fN, a2fN, a3fN, a4fN, a5fN, a6fN, a8fN, a9fN]; done) | ((repeat' split) <;> first | rfl | (simp only [a0fN, a1fN, a2fN, a3fN, a4fN, a5fN, a6fN, a8fN, a9fN]; done) | (exfalso; omega) | skip)); (try rfl)) (by decide) FrS.rf hI14
          · refine r_iload (pc2 := 77) d_M_override_75 rfl rfl ?_
            refine q_if_lt (tgt := 87) (A := (-1 : Int)) (pc2 := 80) d_M_override_77 rfl rfl (by decide) (fun c15 => ?_) (fun c15 => ?_)
            rotate_left
            · exfalso; omega
            refine r_iload (pc2 := 89) d_M_override_87 rfl rfl ?_
            refine Run.ret (some (.int ((-1 : Int32)))) d_M_override_89 ⟨_, rfl⟩ ?_
            first | (exfalso; omega) | exact RQW.val (by (try simp only [efN, b0fN, b1fN, b2fN, b3fN, b4fN, b5fN, b6fN, b8fN, b9fN, Int.toNat_natCast] at c1 c3 c8); (unfold o_override); (try dsimp only); (try simp only [efN, b0fN, b1fN, b2fN, b3fN, b4fN, b5fN, b6fN, b8fN, b9fN, Int.toNat_natCast]); (repeat (first | rw [if_pos (by omega)] | rw [if_neg (by omega)] | (rw [hopkkey]; try dsimp only) | (rw [hoko]; try dsimp only))); (try rfl); (all_goals first | rfl | (simp only [a0fN, a1fN, a2fN, a3fN, a4fN, a5fN, a6fN, a8fN, a9fN]; done) | ((repeat' split) <;> first | rfl | (simp only [a0fN, a1fN, a2fN, a3fN, a4fN, a5fN, a6fN, a8fN, a9fN]; done) | (exfalso; omega) | skip))) (by (try simp only [efN, b0fN, b1fN, b2fN, b3fN, b4fN, b5fN, b6fN, b8fN, b9fN, Int.toNat_natCast] at c1 c3 c8); (unfold g_override); (try dsimp only); (try simp only [efN, b0fN, b1fN, b2fN, b3fN, b4fN, b5fN, b6fN, b8fN, b9fN, Int.toNat_natCast]); (repeat (first | rw [if_pos (by omega)] | rw [if_neg (by omega)] | (rw [hopkkey]; try dsimp only) | (rw [hoko]; try dsimp only))); exact FrS.rf.set)
        | some ko =>
          obtain ⟨hpko, hqko, -⟩ := fst1_spec (show fst1 _ _ = some ko from hoko)
          refine r_istore (pc2 := 45) d_M_override_43 rfl (Nat.le_of_ble_eq_true rfl) ?_
          refine r_iload (pc2 := 47) d_M_override_45 rfl rfl ?_
          refine q_if_ge (tgt := 54) (A := ((ko : Nat) : Int)) (pc2 := 50) d_M_override_47 rfl rfl (nI_toInt (by omega)) (fun c16 => ?_) (fun c16 => ?_)
          rotate_left
          · exfalso; omega
          refine r_aload_n (x := some 761) (pc2 := 55) d_M_override_54 rfl rfl ?_
          refine r_iload_n (pc2 := 56) d_M_override_55 rfl rfl ?_
          refine r_bipush (v := nI 20) (pc2 := 58) d_M_override_56 rfl (by decide) ?_
          refine r_iconst (v := nI 2) (pc2 := 59) d_M_override_58 rfl (by decide) ?_
          refine r_iload (pc2 := 61) d_M_override_59 rfl rfl ?_
          refine q_imulN (pc2 := 62) d_M_override_61 rfl ?_
          refine q_iaddN (pc2 := 63) d_M_override_62 rfl ?_
          refine r_iconst (v := nI 1) (pc2 := 64) d_M_override_63 rfl (by decide) ?_
          refine q_iaddN (pc2 := 65) d_M_override_64 rfl ?_
          refine q_callv (M2 := mi_M_of) (pc2 := 68) d_M_override_65 rfl k_M_76 cm_M_of cv_M_of (sh_761 hS) (by decide) rfl rfl rfl (Nat.le_of_ble_eq_true rfl) (c_M_of (I := I) (F := fN) (W := 20 + 2 * ko + 1) hS hR (by omega)) (d2 := d - 1) (by omega) (Nat.le_of_eq (Nat.zero_add _)) (Nat.le_of_eq (Nat.zero_add _)) ?_
          refine r_istore (pc2 := 70) d_M_override_68 rfl (Nat.le_of_ble_eq_true rfl) ?_
          refine r_iload_n (pc2 := 71) d_M_override_70 rfl rfl ?_
          refine r_iconst (v := (-1 : Int32)) (pc2 := 72) d_M_override_71 rfl (by decide) ?_
          refine q_icmp_ne (tgt := 90) (A := v.toInt) (B := (-1 : Int)) (pc2 := 75) d_M_override_72 rfl rfl (rfl) (by decide) (fun c17 => ?_) (fun c17 => ?_)
          · refine r_iload (pc2 := 92) d_M_override_90 rfl rfl ?_
            refine q_if_ge (tgt := 142) (A := ((ko : Nat) : Int)) (pc2 := 95) d_M_override_92 rfl rfl (nI_toInt (by omega)) (fun c18 => ?_) (fun c18 => ?_)
            rotate_left
            · exfalso; omega
            refine r_aload_n (x := some 761) (pc2 := 143) d_M_override_142 rfl rfl ?_
            refine r_iload_n (pc2 := 144) d_M_override_143 rfl rfl ?_
            refine r_bipush (v := nI 20) (pc2 := 146) d_M_override_144 rfl (by decide) ?_
            refine r_iconst (v := nI 2) (pc2 := 147) d_M_override_146 rfl (by decide) ?_
            refine r_iload (pc2 := 149) d_M_override_147 rfl rfl ?_
            refine q_imulN (pc2 := 150) d_M_override_149 rfl ?_
            refine q_iaddN (pc2 := 151) d_M_override_150 rfl ?_
            refine r_iconst (v := nI 1) (pc2 := 152) d_M_override_151 rfl (by decide) ?_
            refine q_iaddN (pc2 := 153) d_M_override_152 rfl ?_
            refine r_iload_n (pc2 := 154) d_M_override_153 rfl rfl ?_
            refine q_callvV (M2 := mi_M_is) (pc2 := 157) d_M_override_154 rfl k_M_157 cm_M_is cv_M_is (sh_761 hS) (by decide) rfl rfl rfl (Nat.le_of_ble_eq_true rfl) (c_M_is (I := I) (F := fN) (W := 20 + 2 * ko + 1) (v := v) hS hR (by omega)) (d2 := d - 1) (by omega) (Nat.le_of_eq (Nat.zero_add _)) (Nat.le_of_eq (Nat.zero_add _)) ?_
            obtain ⟨I19, hI19⟩ : ∃ x, x = u2 I 762 (174 + 84 * fN + (20 + 2 * ko + 1)) v := ⟨_, rfl⟩
            rw [← hI19]
            refine r_iload (pc2 := 159) d_M_override_157 rfl rfl ?_
            refine Run.ret (some (.int (I 762 (174 + 84 * fN + (20 + 2 * ko + 1))))) d_M_override_159 ⟨_, rfl⟩ ?_
            first | (exfalso; omega) | exact RQW.val (by (try simp only [efN, b0fN, b1fN, b2fN, b3fN, b4fN, b5fN, b6fN, b8fN, b9fN, Int.toNat_natCast] at c1 c3 c17); (unfold o_override); (try dsimp only); (try simp only [efN, b0fN, b1fN, b2fN, b3fN, b4fN, b5fN, b6fN, b8fN, b9fN, Int.toNat_natCast]); (repeat (first | rw [if_pos (by omega)] | rw [if_neg (by omega)] | (rw [hopkkey]; try dsimp only) | (rw [hoko]; try dsimp only))); (try rfl); (all_goals first | rfl | (simp only [a0fN, a1fN, a2fN, a3fN, a4fN, a5fN, a6fN, a8fN, a9fN]; done) | ((repeat' split) <;> first | rfl | (simp only [a0fN, a1fN, a2fN, a3fN, a4fN, a5fN, a6fN, a8fN, a9fN]; done) | (exfalso; omega) | skip))) (by (try simp only [efN, b0fN, b1fN, b2fN, b3fN, b4fN, b5fN, b6fN, b8fN, b9fN, Int.toNat_natCast] at c1 c3 c17); (unfold g_override); (try dsimp only); (try simp only [efN, b0fN, b1fN, b2fN, b3fN, b4fN, b5fN, b6fN, b8fN, b9fN, Int.toNat_natCast]); (repeat (first | rw [if_pos (by omega)] | rw [if_neg (by omega)] | (rw [hopkkey]; try dsimp only) | (rw [hoko]; try dsimp only))); exact (setR_put FrS.rf.set hI19))
          · refine r_iload (pc2 := 77) d_M_override_75 rfl rfl ?_
            refine q_if_lt (tgt := 87) (A := ((ko : Nat) : Int)) (pc2 := 80) d_M_override_77 rfl rfl (nI_toInt (by omega)) (fun c20 => ?_) (fun c20 => ?_)
            · exfalso; omega
            refine r_aload_n (x := some 761) (pc2 := 81) d_M_override_80 rfl rfl ?_
            refine r_iload_n (pc2 := 82) d_M_override_81 rfl rfl ?_
            refine r_iload (pc2 := 84) d_M_override_82 rfl rfl ?_
            refine r_callv (M2 := mi_M_loses) (pc2 := 87) d_M_override_84 rfl k_M_216 cm_M_loses cv_M_loses (sh_761 hS) (by decide) rfl rfl rfl (Nat.le_of_ble_eq_true rfl) (c_M_loses (I := I) (F := fN) (k := ko) (nO := nOfN) hS hR (by omega) (a6fN) (by omega) (by omega) (d := d - 1) (by omega)) (d2 := d - 1) (by omega) (Nat.le_of_eq (Nat.zero_add _)) (Nat.le_of_eq (Nat.zero_add _)) (fun r2 h2 hq2 => ?_)
            obtain ⟨rfl, J21, rfl, hJ21⟩ := hq2
            change Run _ _ _ _ _ _ [] _ _
            have hJ21 := FrS.setR_tr FrS.rf.set hJ21
            have hGJ21 := hJ21.row2
            refine r_iload (pc2 := 89) d_M_override_87 rfl rfl ?_
            refine Run.ret (some (.int (I 762 (174 + 84 * fN + (20 + 2 * ko + 1))))) d_M_override_89 ⟨_, rfl⟩ ?_
            first | (exfalso; omega) | exact RQW.val (by (try simp only [efN, b0fN, b1fN, b2fN, b3fN, b4fN, b5fN, b6fN, b8fN, b9fN, Int.toNat_natCast] at c1 c3 c17); (unfold o_override); (try dsimp only); (try simp only [efN, b0fN, b1fN, b2fN, b3fN, b4fN, b5fN, b6fN, b8fN, b9fN, Int.toNat_natCast]); (repeat (first | rw [if_pos (by omega)] | rw [if_neg (by omega)] | (rw [hopkkey]; try dsimp only) | (rw [hoko]; try dsimp only))); (try rfl); (all_goals first | rfl | (simp only [a0fN, a1fN, a2fN, a3fN, a4fN, a5fN, a6fN, a8fN, a9fN]; done) | ((repeat' split) <;> first | rfl | (simp only [a0fN, a1fN, a2fN, a3fN, a4fN, a5fN, a6fN, a8fN, a9fN]; done) | (exfalso; omega) | skip))) (by (try simp only [efN, b0fN, b1fN, b2fN, b3fN, b4fN, b5fN, b6fN, b8fN, b9fN, Int.toNat_natCast] at c1 c3 c17); (unfold g_override); (try dsimp only); (try simp only [efN, b0fN, b1fN, b2fN, b3fN, b4fN, b5fN, b6fN, b8fN, b9fN, Int.toNat_natCast]); (repeat (first | rw [if_pos (by omega)] | rw [if_neg (by omega)] | (rw [hopkkey]; try dsimp only) | (rw [hoko]; try dsimp only))); exact hJ21)
    · refine r_aload_n (x := some 761) (pc2 := 14) d_M_override_13 rfl rfl ?_
      refine r_iload_n (pc2 := 15) d_M_override_14 rfl rfl ?_
      refine r_iload_n (pc2 := 16) d_M_override_15 rfl rfl ?_
      refine q_callv (M2 := mi_M_isVariant) (pc2 := 19) d_M_override_16 rfl k_M_232 cm_M_isVariant cv_M_isVariant (sh_761 hS) (by decide) rfl rfl rfl (Nat.le_of_ble_eq_true rfl) (c_M_isVariant (I := I) (nF := nF) (f := nI fN) (v := v) hS hR (hFc) hF12 (by omega)) (d2 := d - 1) (by omega) (Nat.le_of_eq (Nat.zero_add _)) (Nat.le_of_eq (Nat.zero_add _)) ?_
      refine q_bif_eq (tgt := 30) (pc2 := 22) d_M_override_19 rfl rfl (fun c22 => ?_) (fun c22 => ?_)
      · refine r_aload_n (x := some 761) (pc2 := 31) d_M_override_30 rfl rfl ?_
        refine r_bipush (v := (-32 : Int32)) (pc2 := 33) d_M_override_31 rfl (by decide) ?_
        refine q_callv (M2 := mi_M_refused) (pc2 := 36) d_M_override_33 rfl k_M_106 cm_M_refused cv_M_refused (sh_761 hS) (by decide) rfl rfl rfl (Nat.le_of_ble_eq_true rfl) (c_M_refused_0 (I := I) hS hR) (d2 := d - 1) (by omega) (Nat.le_of_eq (Nat.zero_add _)) (Nat.le_of_eq (Nat.zero_add _)) ?_
        obtain ⟨I23, hI23⟩ : ∃ x, x = u2 I 765 0 (I 765 0 + nI 1) := ⟨_, rfl⟩
        rw [← hI23]
        refine Run.ret (some (.int ((-32 : Int32)))) d_M_override_36 ⟨_, rfl⟩ ?_
        first | (exfalso; omega) | exact RQW.bad 0 (by (try simp only [efN, b0fN, b1fN, b2fN, b3fN, b4fN, b5fN, b6fN, b8fN, b9fN, Int.toNat_natCast] at c1 c3 c22); (unfold o_override); (try dsimp only); (try simp only [efN, b0fN, b1fN, b2fN, b3fN, b4fN, b5fN, b6fN, b8fN, b9fN, Int.toNat_natCast]); (repeat (first | rw [if_pos (by omega)] | rw [if_neg (by omega)])); (try rfl); (all_goals first | rfl | (simp only [a0fN, a1fN, a2fN, a3fN, a4fN, a5fN, a6fN, a8fN, a9fN]; done) | ((repeat' split) <;> first | rfl | (simp only [a0fN, a1fN, a2fN, a3fN, a4fN, a5fN, a6fN, a8fN, a9fN]; done) | (exfalso; omega) | skip)); (try rfl)) (by (try simp only [efN, b0fN, b1fN, b2fN, b3fN, b4fN, b5fN, b6fN, b8fN, b9fN, Int.toNat_natCast] at c1 c3 c22); (unfold g_override); (try dsimp only); (try simp only [efN, b0fN, b1fN, b2fN, b3fN, b4fN, b5fN, b6fN, b8fN, b9fN, Int.toNat_natCast]); (repeat (first | rw [if_pos (by omega)] | rw [if_neg (by omega)])); (try rfl); (all_goals first | rfl | (simp only [a0fN, a1fN, a2fN, a3fN, a4fN, a5fN, a6fN, a8fN, a9fN]; done) | ((repeat' split) <;> first | rfl | (simp only [a0fN, a1fN, a2fN, a3fN, a4fN, a5fN, a6fN, a8fN, a9fN]; done) | (exfalso; omega) | skip)); (try rfl)) (by decide) FrS.rf hI23
      · simp only [efN, Int.toNat_natCast, b0fN] at c22
        obtain ⟨vN, hvN, gvN, rfl, evN⟩ := nat_of' (Int.le_refl 0) c22.2
        refine r_aload_n (x := some 761) (pc2 := 23) d_M_override_22 rfl rfl ?_
        refine r_iload_n (pc2 := 24) d_M_override_23 rfl rfl ?_
        refine q_callv (M2 := mi_M_personBy) (pc2 := 27) d_M_override_24 rfl k_M_204 cm_M_personBy cv_M_personBy (sh_761 hS) (by decide) rfl rfl rfl (Nat.le_of_ble_eq_true rfl) (c_M_personBy (I := I) (nP := nP) (key := key) hS hR (hPc) hP24 (by omega)) (d2 := d - 1) (by omega) (Nat.le_of_eq (Nat.zero_add _)) (Nat.le_of_eq (Nat.zero_add _)) ?_
        cases hopkkey : pB (I 762) nP key with
        | none =>
          refine q_if_ge (tgt := 37) (A := (-1 : Int)) (pc2 := 30) d_M_override_27 rfl rfl (by decide) (fun c24 => ?_) (fun c24 => ?_)
          · exfalso; omega
          refine r_aload_n (x := some 761) (pc2 := 31) d_M_override_30 rfl rfl ?_
          refine r_bipush (v := (-32 : Int32)) (pc2 := 33) d_M_override_31 rfl (by decide) ?_
          refine q_callv (M2 := mi_M_refused) (pc2 := 36) d_M_override_33 rfl k_M_106 cm_M_refused cv_M_refused (sh_761 hS) (by decide) rfl rfl rfl (Nat.le_of_ble_eq_true rfl) (c_M_refused_0 (I := I) hS hR) (d2 := d - 1) (by omega) (Nat.le_of_eq (Nat.zero_add _)) (Nat.le_of_eq (Nat.zero_add _)) ?_
          obtain ⟨I25, hI25⟩ : ∃ x, x = u2 I 765 0 (I 765 0 + nI 1) := ⟨_, rfl⟩
          rw [← hI25]
          refine Run.ret (some (.int ((-32 : Int32)))) d_M_override_36 ⟨_, rfl⟩ ?_
          first | (exfalso; omega) | exact RQW.bad 0 (by (try simp only [efN, b0fN, b1fN, b2fN, b3fN, b4fN, b5fN, b6fN, b8fN, b9fN, evN, Int.toNat_natCast] at c1 c3 c22); (unfold o_override); (try dsimp only); (try simp only [efN, b0fN, b1fN, b2fN, b3fN, b4fN, b5fN, b6fN, b8fN, b9fN, evN, Int.toNat_natCast]); (repeat (first | rw [if_pos (by omega)] | rw [if_neg (by omega)] | (rw [hopkkey]; try dsimp only))); (try rfl); (all_goals first | rfl | (simp only [a0fN, a1fN, a2fN, a3fN, a4fN, a5fN, a6fN, a8fN, a9fN]; done) | ((repeat' split) <;> first | rfl | (simp only [a0fN, a1fN, a2fN, a3fN, a4fN, a5fN, a6fN, a8fN, a9fN]; done) | (exfalso; omega) | skip)); (try rfl)) (by (try simp only [efN, b0fN, b1fN, b2fN, b3fN, b4fN, b5fN, b6fN, b8fN, b9fN, evN, Int.toNat_natCast] at c1 c3 c22); (unfold g_override); (try dsimp only); (try simp only [efN, b0fN, b1fN, b2fN, b3fN, b4fN, b5fN, b6fN, b8fN, b9fN, evN, Int.toNat_natCast]); (repeat (first | rw [if_pos (by omega)] | rw [if_neg (by omega)] | (rw [hopkkey]; try dsimp only))); (try rfl); (all_goals first | rfl | (simp only [a0fN, a1fN, a2fN, a3fN, a4fN, a5fN, a6fN, a8fN, a9fN]; done) | ((repeat' split) <;> first | rfl | (simp only [a0fN, a1fN, a2fN, a3fN, a4fN, a5fN, a6fN, a8fN, a9fN]; done) | (exfalso; omega) | skip)); (try rfl)) (by decide) FrS.rf hI25
        | some pkkey =>
          obtain ⟨hppkkey, hqpkkey, -⟩ := fst1_spec (show fst1 _ _ = some pkkey from hopkkey)
          refine q_if_ge (tgt := 37) (A := ((pkkey : Nat) : Int)) (pc2 := 30) d_M_override_27 rfl rfl (nI_toInt (by omega)) (fun c26 => ?_) (fun c26 => ?_)
          rotate_left
          · exfalso; omega
          refine r_aload_n (x := some 761) (pc2 := 38) d_M_override_37 rfl rfl ?_
          refine r_iload_n (pc2 := 39) d_M_override_38 rfl rfl ?_
          refine r_iload_n (pc2 := 40) d_M_override_39 rfl rfl ?_
          refine q_callv (M2 := mi_M_overrideOf) (pc2 := 43) d_M_override_40 rfl k_M_179 cm_M_overrideOf cv_M_overrideOf (sh_761 hS) (by decide) rfl rfl rfl (Nat.le_of_ble_eq_true rfl) (c_M_overrideOf (I := I) (F := fN) (nO := nOfN) (key := key) hS hR (by omega) (a6fN) (by omega) (by omega)) (d2 := d - 1) (by omega) (Nat.le_of_eq (Nat.zero_add _)) (Nat.le_of_eq (Nat.zero_add _)) ?_
          cases hoko : oB (I 762) fN nOfN key with
          | none =>
            refine r_istore (pc2 := 45) d_M_override_43 rfl (Nat.le_of_ble_eq_true rfl) ?_
            refine r_iload (pc2 := 47) d_M_override_45 rfl rfl ?_
            refine q_if_ge (tgt := 54) (A := (-1 : Int)) (pc2 := 50) d_M_override_47 rfl rfl (by decide) (fun c27 => ?_) (fun c27 => ?_)
            · exfalso; omega
            refine r_iconst (v := (-1 : Int32)) (pc2 := 51) d_M_override_50 rfl (by decide) ?_
            refine r_goto (tgt := 68) d_M_override_51 rfl ?_
            refine r_istore (pc2 := 70) d_M_override_68 rfl (Nat.le_of_ble_eq_true rfl) ?_
            refine r_iload_n (pc2 := 71) d_M_override_70 rfl rfl ?_
            refine r_iconst (v := (-1 : Int32)) (pc2 := 72) d_M_override_71 rfl (by decide) ?_
            refine q_icmp_ne (tgt := 90) (A := ((vN : Nat) : Int)) (B := (-1 : Int)) (pc2 := 75) d_M_override_72 rfl rfl (nI_toInt (by omega)) (by decide) (fun c28 => ?_) (fun c28 => ?_)
            rotate_left
            · exfalso; omega
            refine r_iload (pc2 := 92) d_M_override_90 rfl rfl ?_
            refine q_if_ge (tgt := 142) (A := (-1 : Int)) (pc2 := 95) d_M_override_92 rfl rfl (by decide) (fun c29 => ?_) (fun c29 => ?_)
            · exfalso; omega
            refine r_aload_n (x := some 761) (pc2 := 96) d_M_override_95 rfl rfl ?_
            refine r_iload_n (pc2 := 97) d_M_override_96 rfl rfl ?_
            refine r_bipush (v := nI 6) (pc2 := 99) d_M_override_97 rfl (by decide) ?_
            refine q_callv (M2 := mi_M_of) (pc2 := 102) d_M_override_99 rfl k_M_76 cm_M_of cv_M_of (sh_761 hS) (by decide) rfl rfl rfl (Nat.le_of_ble_eq_true rfl) (c_M_of (I := I) (F := fN) (W := 6) hS hR (by omega)) (d2 := d - 1) (by omega) (Nat.le_of_eq (Nat.zero_add _)) (Nat.le_of_eq (Nat.zero_add _)) ?_
            refine q_top (y := nI nOfN) (a6fN) ?_
            refine r_istore (pc2 := 104) d_M_override_102 rfl (Nat.le_of_ble_eq_true rfl) ?_
            refine r_iload (pc2 := 106) d_M_override_104 rfl rfl ?_
            refine r_bipush (v := nI 8) (pc2 := 108) d_M_override_106 rfl (by decide) ?_
            refine q_icmp_ne (tgt := 118) (A := ((nOfN : Nat) : Int)) (B := (8 : Int)) (pc2 := 111) d_M_override_108 rfl rfl (nI_toInt (by omega)) (nI_toInt (by omega)) (fun c30 => ?_) (fun c30 => ?_)
            · refine r_aload_n (x := some 761) (pc2 := 119) d_M_override_118 rfl rfl ?_
              refine r_iload_n (pc2 := 120) d_M_override_119 rfl rfl ?_
              refine r_bipush (v := nI 20) (pc2 := 122) d_M_override_120 rfl (by decide) ?_
              refine r_iconst (v := nI 2) (pc2 := 123) d_M_override_122 rfl (by decide) ?_
              refine r_iload (pc2 := 125) d_M_override_123 rfl rfl ?_
              refine q_imulN (pc2 := 126) d_M_override_125 rfl ?_
              refine q_iaddN (pc2 := 127) d_M_override_126 rfl ?_
              refine r_iload_n (pc2 := 128) d_M_override_127 rfl rfl ?_
              refine q_callvV (M2 := mi_M_is) (pc2 := 131) d_M_override_128 rfl k_M_157 cm_M_is cv_M_is (sh_761 hS) (by decide) rfl rfl rfl (Nat.le_of_ble_eq_true rfl) (c_M_is (I := I) (F := fN) (W := 20 + 2 * nOfN) (v := key) hS hR (by omega)) (d2 := d - 1) (by omega) (Nat.le_of_eq (Nat.zero_add _)) (Nat.le_of_eq (Nat.zero_add _)) ?_
              obtain ⟨I31, hI31⟩ : ∃ x, x = u2 I 762 (174 + 84 * fN + (20 + 2 * nOfN)) key := ⟨_, rfl⟩
              rw [← hI31]
              refine r_aload_n (x := some 761) (pc2 := 132) d_M_override_131 rfl rfl ?_
              refine r_iload_n (pc2 := 133) d_M_override_132 rfl rfl ?_
              refine r_bipush (v := nI 6) (pc2 := 135) d_M_override_133 rfl (by decide) ?_
              refine r_iload (pc2 := 137) d_M_override_135 rfl rfl ?_
              refine r_iconst (v := nI 1) (pc2 := 138) d_M_override_137 rfl (by decide) ?_
              refine q_iaddN (pc2 := 139) d_M_override_138 rfl ?_
              refine q_callvV (M2 := mi_M_is) (pc2 := 142) d_M_override_139 rfl k_M_157 cm_M_is cv_M_is (sh_761 hS) (by decide) rfl rfl rfl (Nat.le_of_ble_eq_true rfl) (c_M_is (I := I31) (F := fN) (W := 6) (v := nI (nOfN + 1)) hS hR (by omega)) (d2 := d - 1) (by omega) (Nat.le_of_eq (Nat.zero_add _)) (Nat.le_of_eq (Nat.zero_add _)) ?_
              obtain ⟨I32, hI32⟩ : ∃ x, x = u2 I31 762 (174 + 84 * fN + 6) (nI (nOfN + 1)) := ⟨_, rfl⟩
              rw [← hI32]
              refine r_aload_n (x := some 761) (pc2 := 143) d_M_override_142 rfl rfl ?_
              refine r_iload_n (pc2 := 144) d_M_override_143 rfl rfl ?_
              refine r_bipush (v := nI 20) (pc2 := 146) d_M_override_144 rfl (by decide) ?_
              refine r_iconst (v := nI 2) (pc2 := 147) d_M_override_146 rfl (by decide) ?_
              refine r_iload (pc2 := 149) d_M_override_147 rfl rfl ?_
              refine q_imulN (pc2 := 150) d_M_override_149 rfl ?_
              refine q_iaddN (pc2 := 151) d_M_override_150 rfl ?_
              refine r_iconst (v := nI 1) (pc2 := 152) d_M_override_151 rfl (by decide) ?_
              refine q_iaddN (pc2 := 153) d_M_override_152 rfl ?_
              refine r_iload_n (pc2 := 154) d_M_override_153 rfl rfl ?_
              refine q_callvV (M2 := mi_M_is) (pc2 := 157) d_M_override_154 rfl k_M_157 cm_M_is cv_M_is (sh_761 hS) (by decide) rfl rfl rfl (Nat.le_of_ble_eq_true rfl) (c_M_is (I := I32) (F := fN) (W := 20 + 2 * nOfN + 1) (v := nI vN) hS hR (by omega)) (d2 := d - 1) (by omega) (Nat.le_of_eq (Nat.zero_add _)) (Nat.le_of_eq (Nat.zero_add _)) ?_
              obtain ⟨I33, hI33⟩ : ∃ x, x = u2 I32 762 (174 + 84 * fN + (20 + 2 * nOfN + 1)) (nI vN) := ⟨_, rfl⟩
              rw [← hI33]
              refine r_iload (pc2 := 159) d_M_override_157 rfl rfl ?_
              refine Run.ret (some (.int ((-1 : Int32)))) d_M_override_159 ⟨_, rfl⟩ ?_
              first | (exfalso; omega) | exact RQW.val (by (try simp only [efN, b0fN, b1fN, b2fN, b3fN, b4fN, b5fN, b6fN, b8fN, b9fN, evN, Int.toNat_natCast] at c1 c3 c22 c30); (unfold o_override); (try dsimp only); (try simp only [efN, b0fN, b1fN, b2fN, b3fN, b4fN, b5fN, b6fN, b8fN, b9fN, evN, Int.toNat_natCast]); (repeat (first | rw [if_pos (by omega)] | rw [if_neg (by omega)] | (rw [hopkkey]; try dsimp only) | (rw [hoko]; try dsimp only))); (try rfl); (all_goals first | rfl | (simp only [a0fN, a1fN, a2fN, a3fN, a4fN, a5fN, a6fN, a8fN, a9fN]; done) | ((repeat' split) <;> first | rfl | (simp only [a0fN, a1fN, a2fN, a3fN, a4fN, a5fN, a6fN, a8fN, a9fN]; done) | (exfalso; omega) | skip))) (by (try simp only [efN, b0fN, b1fN, b2fN, b3fN, b4fN, b5fN, b6fN, b8fN, b9fN, evN, Int.toNat_natCast] at c1 c3 c22 c30); (unfold g_override); (try dsimp only); (try simp only [efN, b0fN, b1fN, b2fN, b3fN, b4fN, b5fN, b6fN, b8fN, b9fN, evN, Int.toNat_natCast]); (repeat (first | rw [if_pos (by omega)] | rw [if_neg (by omega)] | (rw [hopkkey]; try dsimp only) | (rw [hoko]; try dsimp only))); exact (setR_put (setR_put (setR_put FrS.rf.set hI31) hI32) hI33))
            · refine r_aload_n (x := some 761) (pc2 := 112) d_M_override_111 rfl rfl ?_
              refine r_bipush (v := (-36 : Int32)) (pc2 := 114) d_M_override_112 rfl (by decide) ?_
              refine q_callv (M2 := mi_M_refused) (pc2 := 117) d_M_override_114 rfl k_M_106 cm_M_refused cv_M_refused (sh_761 hS) (by decide) rfl rfl rfl (Nat.le_of_ble_eq_true rfl) (c_M_refused_4 (I := I) hS hR) (d2 := d - 1) (by omega) (Nat.le_of_eq (Nat.zero_add _)) (Nat.le_of_eq (Nat.zero_add _)) ?_
              obtain ⟨I34, hI34⟩ : ∃ x, x = u2 I 765 4 (I 765 4 + nI 1) := ⟨_, rfl⟩
              rw [← hI34]
              refine Run.ret (some (.int ((-36 : Int32)))) d_M_override_117 ⟨_, rfl⟩ ?_
              first | (exfalso; omega) | exact RQW.bad 4 (by (try simp only [efN, b0fN, b1fN, b2fN, b3fN, b4fN, b5fN, b6fN, b8fN, b9fN, evN, Int.toNat_natCast] at c1 c3 c22 c30); (unfold o_override); (try dsimp only); (try simp only [efN, b0fN, b1fN, b2fN, b3fN, b4fN, b5fN, b6fN, b8fN, b9fN, evN, Int.toNat_natCast]); (repeat (first | rw [if_pos (by omega)] | rw [if_neg (by omega)] | (rw [hopkkey]; try dsimp only) | (rw [hoko]; try dsimp only))); (try rfl); (all_goals first | rfl | (simp only [a0fN, a1fN, a2fN, a3fN, a4fN, a5fN, a6fN, a8fN, a9fN]; done) | ((repeat' split) <;> first | rfl | (simp only [a0fN, a1fN, a2fN, a3fN, a4fN, a5fN, a6fN, a8fN, a9fN]; done) | (exfalso; omega) | skip)); (try rfl)) (by (try simp only [efN, b0fN, b1fN, b2fN, b3fN, b4fN, b5fN, b6fN, b8fN, b9fN, evN, Int.toNat_natCast] at c1 c3 c22 c30); (unfold g_override); (try dsimp only); (try simp only [efN, b0fN, b1fN, b2fN, b3fN, b4fN, b5fN, b6fN, b8fN, b9fN, evN, Int.toNat_natCast]); (repeat (first | rw [if_pos (by omega)] | rw [if_neg (by omega)] | (rw [hopkkey]; try dsimp only) | (rw [hoko]; try dsimp only))); (try rfl); (all_goals first | rfl | (simp only [a0fN, a1fN, a2fN, a3fN, a4fN, a5fN, a6fN, a8fN, a9fN]; done) | ((repeat' split) <;> first | rfl | (simp only [a0fN, a1fN, a2fN, a3fN, a4fN, a5fN, a6fN, a8fN, a9fN]; done) | (exfalso; omega) | skip)); (try rfl)) (by decide) FrS.rf hI34
          | some ko =>
            obtain ⟨hpko, hqko, -⟩ := fst1_spec (show fst1 _ _ = some ko from hoko)
            refine r_istore (pc2 := 45) d_M_override_43 rfl (Nat.le_of_ble_eq_true rfl) ?_
            refine r_iload (pc2 := 47) d_M_override_45 rfl rfl ?_
            refine q_if_ge (tgt := 54) (A := ((ko : Nat) : Int)) (pc2 := 50) d_M_override_47 rfl rfl (nI_toInt (by omega)) (fun c35 => ?_) (fun c35 => ?_)
            rotate_left
            · exfalso; omega
            refine r_aload_n (x := some 761) (pc2 := 55) d_M_override_54 rfl rfl ?_
            refine r_iload_n (pc2 := 56) d_M_override_55 rfl rfl ?_
            refine r_bipush (v := nI 20) (pc2 := 58) d_M_override_56 rfl (by decide) ?_
            refine r_iconst (v := nI 2) (pc2 := 59) d_M_override_58 rfl (by decide) ?_
            refine r_iload (pc2 := 61) d_M_override_59 rfl rfl ?_
            refine q_imulN (pc2 := 62) d_M_override_61 rfl ?_
            refine q_iaddN (pc2 := 63) d_M_override_62 rfl ?_
            refine r_iconst (v := nI 1) (pc2 := 64) d_M_override_63 rfl (by decide) ?_
            refine q_iaddN (pc2 := 65) d_M_override_64 rfl ?_
            refine q_callv (M2 := mi_M_of) (pc2 := 68) d_M_override_65 rfl k_M_76 cm_M_of cv_M_of (sh_761 hS) (by decide) rfl rfl rfl (Nat.le_of_ble_eq_true rfl) (c_M_of (I := I) (F := fN) (W := 20 + 2 * ko + 1) hS hR (by omega)) (d2 := d - 1) (by omega) (Nat.le_of_eq (Nat.zero_add _)) (Nat.le_of_eq (Nat.zero_add _)) ?_
            refine r_istore (pc2 := 70) d_M_override_68 rfl (Nat.le_of_ble_eq_true rfl) ?_
            refine r_iload_n (pc2 := 71) d_M_override_70 rfl rfl ?_
            refine r_iconst (v := (-1 : Int32)) (pc2 := 72) d_M_override_71 rfl (by decide) ?_
            refine q_icmp_ne (tgt := 90) (A := ((vN : Nat) : Int)) (B := (-1 : Int)) (pc2 := 75) d_M_override_72 rfl rfl (nI_toInt (by omega)) (by decide) (fun c36 => ?_) (fun c36 => ?_)
            rotate_left
            · exfalso; omega
            refine r_iload (pc2 := 92) d_M_override_90 rfl rfl ?_
            refine q_if_ge (tgt := 142) (A := ((ko : Nat) : Int)) (pc2 := 95) d_M_override_92 rfl rfl (nI_toInt (by omega)) (fun c37 => ?_) (fun c37 => ?_)
            rotate_left
            · exfalso; omega
            refine r_aload_n (x := some 761) (pc2 := 143) d_M_override_142 rfl rfl ?_
            refine r_iload_n (pc2 := 144) d_M_override_143 rfl rfl ?_
            refine r_bipush (v := nI 20) (pc2 := 146) d_M_override_144 rfl (by decide) ?_
            refine r_iconst (v := nI 2) (pc2 := 147) d_M_override_146 rfl (by decide) ?_
            refine r_iload (pc2 := 149) d_M_override_147 rfl rfl ?_
            refine q_imulN (pc2 := 150) d_M_override_149 rfl ?_
            refine q_iaddN (pc2 := 151) d_M_override_150 rfl ?_
            refine r_iconst (v := nI 1) (pc2 := 152) d_M_override_151 rfl (by decide) ?_
            refine q_iaddN (pc2 := 153) d_M_override_152 rfl ?_
            refine r_iload_n (pc2 := 154) d_M_override_153 rfl rfl ?_
            refine q_callvV (M2 := mi_M_is) (pc2 := 157) d_M_override_154 rfl k_M_157 cm_M_is cv_M_is (sh_761 hS) (by decide) rfl rfl rfl (Nat.le_of_ble_eq_true rfl) (c_M_is (I := I) (F := fN) (W := 20 + 2 * ko + 1) (v := nI vN) hS hR (by omega)) (d2 := d - 1) (by omega) (Nat.le_of_eq (Nat.zero_add _)) (Nat.le_of_eq (Nat.zero_add _)) ?_
            obtain ⟨I38, hI38⟩ : ∃ x, x = u2 I 762 (174 + 84 * fN + (20 + 2 * ko + 1)) (nI vN) := ⟨_, rfl⟩
            rw [← hI38]
            refine r_iload (pc2 := 159) d_M_override_157 rfl rfl ?_
            refine Run.ret (some (.int (I 762 (174 + 84 * fN + (20 + 2 * ko + 1))))) d_M_override_159 ⟨_, rfl⟩ ?_
            first | (exfalso; omega) | exact RQW.val (by (try simp only [efN, b0fN, b1fN, b2fN, b3fN, b4fN, b5fN, b6fN, b8fN, b9fN, evN, Int.toNat_natCast] at c1 c3 c22); (unfold o_override); (try dsimp only); (try simp only [efN, b0fN, b1fN, b2fN, b3fN, b4fN, b5fN, b6fN, b8fN, b9fN, evN, Int.toNat_natCast]); (repeat (first | rw [if_pos (by omega)] | rw [if_neg (by omega)] | (rw [hopkkey]; try dsimp only) | (rw [hoko]; try dsimp only))); (try rfl); (all_goals first | rfl | (simp only [a0fN, a1fN, a2fN, a3fN, a4fN, a5fN, a6fN, a8fN, a9fN]; done) | ((repeat' split) <;> first | rfl | (simp only [a0fN, a1fN, a2fN, a3fN, a4fN, a5fN, a6fN, a8fN, a9fN]; done) | (exfalso; omega) | skip))) (by (try simp only [efN, b0fN, b1fN, b2fN, b3fN, b4fN, b5fN, b6fN, b8fN, b9fN, evN, Int.toNat_natCast] at c1 c3 c22); (unfold g_override); (try dsimp only); (try simp only [efN, b0fN, b1fN, b2fN, b3fN, b4fN, b5fN, b6fN, b8fN, b9fN, evN, Int.toNat_natCast]); (repeat (first | rw [if_pos (by omega)] | rw [if_neg (by omega)] | (rw [hopkkey]; try dsimp only) | (rw [hoko]; try dsimp only))); exact (setR_put FrS.rf.set hI38))
