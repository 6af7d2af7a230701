/-! THE READER: numbers, tests, keys -/
theorem nmL_st {T : Nat → Int32} {n m i q v : Nat} (hi : i < m) (h : 48 ≤ byt T n q ∧ byt T n q ≤ 57) : nmL T n (m - i) q v = nmL T n (m - (i + 1)) (q + 1) (10 * v + (byt T n q).toNat - 48) := by
  obtain ⟨k, hk⟩ : ∃ k, m - i = k + 1 := ⟨m - i - 1, by omega⟩
  rw [hk, show m - (i + 1) = k by omega]
  show (if 48 ≤ byt T n q ∧ byt T n q ≤ 57 then _ else _) = _
  rw [if_pos h]
theorem nmL_0 {T : Nat → Int32} {n m q v : Nat} (h : m = 0 ∨ ¬ (48 ≤ byt T n q ∧ byt T n q ≤ 57)) : nmL T n m q v = (q, v) := by
  cases m with
  | zero => rfl
  | succ k =>
    have h2 : ¬ (48 ≤ byt T n q ∧ byt T n q ≤ 57) := by
      rcases h with h | h
      · cases h
      · exact h
    show (if 48 ≤ byt T n q ∧ byt T n q ≤ 57 then _ else _) = _
    rw [if_neg h2]
theorem nmb_n {T : Nat → Int32} {n m p lo hi e v : Nat} (h : nmL T n m p 0 = (e, v)) (h2 : e = p ∨ v < lo ∨ hi < v) : nmb T n m p lo hi = none := by unfold nmb; rw [h, if_pos h2]
theorem nmb_s {T : Nat → Int32} {n m p lo hi e v : Nat} (h : nmL T n m p 0 = (e, v)) (h2 : ¬ (e = p ∨ v < lo ∨ hi < v)) : nmb T n m p lo hi = some (e, v) := by unfold nmb; rw [h, if_neg h2]
theorem nmb_1 {T : Nat → Int32} {n p hi : Nat} : nmb T n 1 p 0 hi = (if 48 ≤ byt T n p ∧ byt T n p ≤ 57 ∧ (byt T n p).toNat - 48 ≤ hi then some (p + 1, (byt T n p).toNat - 48) else none) := by
  by_cases h : 48 ≤ byt T n p ∧ byt T n p ≤ 57
  · have e : nmL T n 1 p 0 = (p + 1, (byt T n p).toNat - 48) := by
      show (if 48 ≤ byt T n p ∧ byt T n p ≤ 57 then _ else _) = _
      rw [if_pos h]
      show (p + 1, 10 * 0 + (byt T n p).toNat - 48) = _
      rw [Nat.mul_zero, Nat.zero_add]
    by_cases h2 : (byt T n p).toNat - 48 ≤ hi
    · rw [nmb_s e (by omega), if_pos ⟨h.1, h.2, h2⟩]
    · rw [nmb_n e (by omega), if_neg (fun z => h2 z.2.2)]
  · rw [nmb_n (nmL_0 (m := 1) (v := 0) (Or.inr h)) (Or.inl rfl), if_neg (fun z => h ⟨z.1, z.2.1⟩)]
theorem opd_t {T : Nat → Int32} {n p : Nat} (h : 97 ≤ byt T n p ∧ byt T n p ≤ 100) : opd T n p = (if byt T n (p + 1) = 60 ∨ byt T n (p + 1) = 61 ∨ byt T n (p + 1) = 62 then (match nmb T n 1 (p + 2) 0 9 with
    | none => .inl (p + 2)
    | some (e, v) => .inr (e, (5, (byt T n p).toNat - 97, v, (byt T n (p + 1)).toNat))) else .inl (p + 1)) := by
  unfold opd
  rw [if_neg (by omega), if_neg (by omega), if_pos h]
  cases nmb T n 1 (p + 2) 0 9 <;> rfl
theorem opd_k {T : Nat → Int32} {n p : Nat} (h : byt T n p = 35) : opd T n p = (match nmb T n 6 (p + 1) 0 999999 with
    | none => .inl (p + 1)
    | some (e, lo) => if byt T n e = 45 then (match nmb T n 6 (e + 1) lo 999999 with
      | none => .inl (e + 1)
      | some (e2, hi) => .inr (e2, (6, lo, hi, 0))) else .inl e) := by
  unfold opd
  rw [if_neg (by omega), if_pos h]
  cases nmb T n 6 (p + 1) 0 999999 with
  | none => rfl
  | some r =>
    obtain ⟨e, lo⟩ := r
    dsimp only
    cases nmb T n 6 (e + 1) lo 999999 <;> rfl
/-- nothing but the place differs -/
def Fr2 (J K : Nat → Nat → Int32) : Prop := ∀ a j, ¬ (a = 731 ∧ j = 2) → K a j = J a j
theorem Fr2.rf {J : Nat → Nat → Int32} : Fr2 J J := fun _ _ _ => rfl
theorem Fr2.p {I J K : Nat → Nat → Int32} {v : Int32} (h : Fr2 I J) (h2 : K = u2 J 731 2 v) (_ : 731 ≤ 731 ∧ 731 < 740) : Fr2 I K := by
  intro a j q
  by_cases z : a = 731
  · subst z; exact (rd_nk h2 (fun y => q ⟨rfl, y⟩)).trans (h _ _ q)
  · exact (rd_ne h2 z).trans (h a j q)
theorem Fr2.v {J K : Nat → Nat → Int32} (h : Fr2 J K) : FrV J K := fun a j q => h a j (fun z => q ⟨by omega, by omega⟩)
/-- what readNumber leaves -/
def NmP (T : Nat → Int32) (n p : Nat) (due : Bool) (ob : Nat) (ns : List Nd) (W Lo : List Nat) (r : Option (Nat × Nat)) (x : Option Value) (K : Nat → Nat → Int32) : Prop := match r with
  | none => x = some (.int (-1)) ∧ RS T n p due ob ns W Lo K
  | some (e, v) => x = some (.int (nI v)) ∧ RS T n e due ob ns W Lo K
/-- what the reading of an operand leaves -/
def OpP (T : Nat → Int32) (n : Nat) (ob : Nat) (ns : List Nd) (W Lo : List Nat) (r : Nat ⊕ (Nat × Nd)) (x : Option Value) (K : Nat → Nat → Int32) : Prop := match r with
  | .inl q => x = some (.int (nI 0)) ∧ RS T n q true ob ns W Lo K
  | .inr (q, y) => x = some (.int (nI 1)) ∧ RS T n q false ob (ns ++ [y]) W (ns.length :: Lo) K
theorem l_Re_readNumber {d : Nat} {J : Nat → Nat → Int32} {R : Nat → Nat → Option Nat} {L : Nat → Nat → Int64} {sh : Nat → Nat × Nat} {N : Nat} (hS : ShOK sh) (hR : RfOK R) (hT0 : R 731 0 = some 730) {T : Nat → Int32} {n p m lo hi : Nat} {due : Bool} {ob : Nat} {ns : List Nd} {W Lo : List Nat} (hn : n ≤ 250) (hp : p ≤ n) (hm : m ≤ 6) (hlo : lo ≤ 999999) (hhi : hi ≤ 999999) {Q : Option Value → HS → Prop} (hq : ∀ x K, Fr2 J K → NmP T n p due ob ns W Lo (nmb T n m p lo hi) x K → Q x (K, R, L, sh, N)) (hd : 1 ≤ d) : ∀ (n_ : Nat) (i q v : Nat) (K0 : Nat → Nat → Int32), m - i = n_ → (RS T n q due ob ns W Lo K0) → (Fr2 J K0) → (nmL T n m p 0 = nmL T n (m - i) q v) → (v < 10 ^ i) → (i ≤ m) → (p ≤ q) → (q ≤ n) → Run mi_Re_readNumber d 0 0 12 [(0, .ref 731), (1, .int (nI m)), (2, .int (nI lo)), (3, .int (nI hi)), (4, .int (nI p)), (5, .int (nI v)), (6, .int (nI i))] [] (K0, R, L, sh, N) Q := by
  intro n_
  induction n_ using Nat.strongRecOn with | ind n_ ih_ => ?_
  intro i q v K0 hn_ v0_ v1_ v2_ v3_ v4_ v5_ v6_
  have hv6 : v < 1000000 := Nat.lt_of_lt_of_le v3_ (Nat.pow_le_pow_right (by decide) (show i ≤ 6 by omega))
  have hlq : 48 ≤ byt T n q → q < n := fun z => byt_lt (T := T) (n := n) (p := q) (by omega)
  refine r_iload (pc2 := 14) d_Re_readNumber_12 rfl rfl ?_
  refine r_iload_n (pc2 := 15) d_Re_readNumber_14 rfl rfl ?_
  refine q_icmp_ge (tgt := 56) (A := ((i : Nat) : Int)) (B := ((m : Nat) : Int)) (pc2 := 18) d_Re_readNumber_15 rfl rfl (nI_toInt (by omega)) (nI_toInt (by omega)) (fun c1 => ?_) (fun c1 => ?_)
  · refine r_aload_n (x := some 731) (pc2 := 57) d_Re_readNumber_56 rfl rfl ?_
    refine q_getI (x := nI q) (pc2 := 60) d_Re_readNumber_57 rfl k_Re_19 (by decide) (sh_731 hS) v0_.1.2.1 ?_
    refine r_iload (pc2 := 62) d_Re_readNumber_60 rfl rfl ?_
    refine q_icmp_eq (tgt := 77) (A := ((q : Nat) : Int)) (B := ((p : Nat) : Int)) (pc2 := 65) d_Re_readNumber_62 rfl rfl (nI_toInt (by omega)) (nI_toInt (by omega)) (fun c2 => ?_) (fun c2 => ?_)
    · refine r_aload_n (x := some 731) (pc2 := 78) d_Re_readNumber_77 rfl rfl ?_
      refine r_iload (pc2 := 80) d_Re_readNumber_78 rfl rfl ?_
      refine q_putI (pc2 := 83) d_Re_readNumber_80 rfl k_Re_19 (Or.inl rfl) (sh_731 hS) (Or.inl rfl) (fun I3 hI3 => ?_)
      have hr4 := v0_.pl (q := p) hI3
      refine r_iconst (v := (-1 : Int32)) (pc2 := 84) d_Re_readNumber_83 rfl (by decide) ?_
      refine Run.ret (some (.int ((-1 : Int32)))) d_Re_readNumber_84 ⟨_, rfl⟩ ?_
      have e_ : nmL T n m p 0 = (q, v) := v2_.trans (nmL_0 (by first | exact Or.inl (by omega) | exact Or.inr (by assumption)))
      exact hq _ _ (v1_.p hI3 (by decide)) (by rw [nmb_n e_ (by omega)]; exact ⟨rfl, hr4⟩)
    · refine r_iload (pc2 := 67) d_Re_readNumber_65 rfl rfl ?_
      refine r_iload_n (pc2 := 68) d_Re_readNumber_67 rfl rfl ?_
      refine q_icmp_lt (tgt := 77) (A := ((v : Nat) : Int)) (B := ((lo : Nat) : Int)) (pc2 := 71) d_Re_readNumber_68 rfl rfl (nI_toInt (by omega)) (nI_toInt (by omega)) (fun c5 => ?_) (fun c5 => ?_)
      · refine r_aload_n (x := some 731) (pc2 := 78) d_Re_readNumber_77 rfl rfl ?_
        refine r_iload (pc2 := 80) d_Re_readNumber_78 rfl rfl ?_
        refine q_putI (pc2 := 83) d_Re_readNumber_80 rfl k_Re_19 (Or.inl rfl) (sh_731 hS) (Or.inl rfl) (fun I6 hI6 => ?_)
        have hr7 := v0_.pl (q := p) hI6
        refine r_iconst (v := (-1 : Int32)) (pc2 := 84) d_Re_readNumber_83 rfl (by decide) ?_
        refine Run.ret (some (.int ((-1 : Int32)))) d_Re_readNumber_84 ⟨_, rfl⟩ ?_
        have e_ : nmL T n m p 0 = (q, v) := v2_.trans (nmL_0 (by first | exact Or.inl (by omega) | exact Or.inr (by assumption)))
        exact hq _ _ (v1_.p hI6 (by decide)) (by rw [nmb_n e_ (by omega)]; exact ⟨rfl, hr7⟩)
      · refine r_iload (pc2 := 73) d_Re_readNumber_71 rfl rfl ?_
        refine r_iload_n (pc2 := 74) d_Re_readNumber_73 rfl rfl ?_
        refine q_icmp_le (tgt := 85) (A := ((v : Nat) : Int)) (B := ((hi : Nat) : Int)) (pc2 := 77) d_Re_readNumber_74 rfl rfl (nI_toInt (by omega)) (nI_toInt (by omega)) (fun c8 => ?_) (fun c8 => ?_)
        · refine r_iload (pc2 := 87) d_Re_readNumber_85 rfl rfl ?_
          refine Run.ret (some (.int (nI v))) d_Re_readNumber_87 ⟨_, rfl⟩ ?_
          have e_ : nmL T n m p 0 = (q, v) := v2_.trans (nmL_0 (by first | exact Or.inl (by omega) | exact Or.inr (by assumption)))
          exact hq _ _ v1_ (by rw [nmb_s e_ (by omega)]; exact ⟨rfl, v0_⟩)
        · refine r_aload_n (x := some 731) (pc2 := 78) d_Re_readNumber_77 rfl rfl ?_
          refine r_iload (pc2 := 80) d_Re_readNumber_78 rfl rfl ?_
          refine q_putI (pc2 := 83) d_Re_readNumber_80 rfl k_Re_19 (Or.inl rfl) (sh_731 hS) (Or.inl rfl) (fun I9 hI9 => ?_)
          have hr10 := v0_.pl (q := p) hI9
          refine r_iconst (v := (-1 : Int32)) (pc2 := 84) d_Re_readNumber_83 rfl (by decide) ?_
          refine Run.ret (some (.int ((-1 : Int32)))) d_Re_readNumber_84 ⟨_, rfl⟩ ?_
          have e_ : nmL T n m p 0 = (q, v) := v2_.trans (nmL_0 (by first | exact Or.inl (by omega) | exact Or.inr (by assumption)))
          exact hq _ _ (v1_.p hI9 (by decide)) (by rw [nmb_n e_ (by omega)]; exact ⟨rfl, hr10⟩)
  · refine r_aload_n (x := some 731) (pc2 := 19) d_Re_readNumber_18 rfl rfl ?_
    refine q_callv (M2 := mi_Re_isDigitHere) (pc2 := 22) d_Re_readNumber_19 rfl k_Re_111 cm_Re_isDigitHere cv_Re_isDigitHere (sh_731 hS) (by decide) rfl rfl rfl (Nat.le_of_ble_eq_true rfl) (c_Re_isDigitHere hS hR hT0 v0_ hn (by omega)) (d2 := d - 1) (by omega) (Nat.le_of_eq (Nat.zero_add _)) (Nat.le_of_eq (Nat.zero_add _)) ?_
    refine q_bif_eq (tgt := 56) (pc2 := 25) d_Re_readNumber_22 rfl rfl (fun c11 => ?_) (fun c11 => ?_)
    · refine r_aload_n (x := some 731) (pc2 := 57) d_Re_readNumber_56 rfl rfl ?_
      refine q_getI (x := nI q) (pc2 := 60) d_Re_readNumber_57 rfl k_Re_19 (by decide) (sh_731 hS) v0_.1.2.1 ?_
      refine r_iload (pc2 := 62) d_Re_readNumber_60 rfl rfl ?_
      refine q_icmp_eq (tgt := 77) (A := ((q : Nat) : Int)) (B := ((p : Nat) : Int)) (pc2 := 65) d_Re_readNumber_62 rfl rfl (nI_toInt (by omega)) (nI_toInt (by omega)) (fun c12 => ?_) (fun c12 => ?_)
      · refine r_aload_n (x := some 731) (pc2 := 78) d_Re_readNumber_77 rfl rfl ?_
        refine r_iload (pc2 := 80) d_Re_readNumber_78 rfl rfl ?_
        refine q_putI (pc2 := 83) d_Re_readNumber_80 rfl k_Re_19 (Or.inl rfl) (sh_731 hS) (Or.inl rfl) (fun I13 hI13 => ?_)
        have hr14 := v0_.pl (q := p) hI13
        refine r_iconst (v := (-1 : Int32)) (pc2 := 84) d_Re_readNumber_83 rfl (by decide) ?_
        refine Run.ret (some (.int ((-1 : Int32)))) d_Re_readNumber_84 ⟨_, rfl⟩ ?_
        have e_ : nmL T n m p 0 = (q, v) := v2_.trans (nmL_0 (by first | exact Or.inl (by omega) | exact Or.inr (by assumption)))
        exact hq _ _ (v1_.p hI13 (by decide)) (by rw [nmb_n e_ (by omega)]; exact ⟨rfl, hr14⟩)
      · refine r_iload (pc2 := 67) d_Re_readNumber_65 rfl rfl ?_
        refine r_iload_n (pc2 := 68) d_Re_readNumber_67 rfl rfl ?_
        refine q_icmp_lt (tgt := 77) (A := ((v : Nat) : Int)) (B := ((lo : Nat) : Int)) (pc2 := 71) d_Re_readNumber_68 rfl rfl (nI_toInt (by omega)) (nI_toInt (by omega)) (fun c15 => ?_) (fun c15 => ?_)
        · refine r_aload_n (x := some 731) (pc2 := 78) d_Re_readNumber_77 rfl rfl ?_
          refine r_iload (pc2 := 80) d_Re_readNumber_78 rfl rfl ?_
          refine q_putI (pc2 := 83) d_Re_readNumber_80 rfl k_Re_19 (Or.inl rfl) (sh_731 hS) (Or.inl rfl) (fun I16 hI16 => ?_)
          have hr17 := v0_.pl (q := p) hI16
          refine r_iconst (v := (-1 : Int32)) (pc2 := 84) d_Re_readNumber_83 rfl (by decide) ?_
          refine Run.ret (some (.int ((-1 : Int32)))) d_Re_readNumber_84 ⟨_, rfl⟩ ?_
          have e_ : nmL T n m p 0 = (q, v) := v2_.trans (nmL_0 (by first | exact Or.inl (by omega) | exact Or.inr (by assumption)))
          exact hq _ _ (v1_.p hI16 (by decide)) (by rw [nmb_n e_ (by omega)]; exact ⟨rfl, hr17⟩)
        · refine r_iload (pc2 := 73) d_Re_readNumber_71 rfl rfl ?_
          refine r_iload_n (pc2 := 74) d_Re_readNumber_73 rfl rfl ?_
          refine q_icmp_le (tgt := 85) (A := ((v : Nat) : Int)) (B := ((hi : Nat) : Int)) (pc2 := 77) d_Re_readNumber_74 rfl rfl (nI_toInt (by omega)) (nI_toInt (by omega)) (fun c18 => ?_) (fun c18 => ?_)
          · refine r_iload (pc2 := 87) d_Re_readNumber_85 rfl rfl ?_
            refine Run.ret (some (.int (nI v))) d_Re_readNumber_87 ⟨_, rfl⟩ ?_
            have e_ : nmL T n m p 0 = (q, v) := v2_.trans (nmL_0 (by first | exact Or.inl (by omega) | exact Or.inr (by assumption)))
            exact hq _ _ v1_ (by rw [nmb_s e_ (by omega)]; exact ⟨rfl, v0_⟩)
          · refine r_aload_n (x := some 731) (pc2 := 78) d_Re_readNumber_77 rfl rfl ?_
            refine r_iload (pc2 := 80) d_Re_readNumber_78 rfl rfl ?_
            refine q_putI (pc2 := 83) d_Re_readNumber_80 rfl k_Re_19 (Or.inl rfl) (sh_731 hS) (Or.inl rfl) (fun I19 hI19 => ?_)
            have hr20 := v0_.pl (q := p) hI19
            refine r_iconst (v := (-1 : Int32)) (pc2 := 84) d_Re_readNumber_83 rfl (by decide) ?_
            refine Run.ret (some (.int ((-1 : Int32)))) d_Re_readNumber_84 ⟨_, rfl⟩ ?_
            have e_ : nmL T n m p 0 = (q, v) := v2_.trans (nmL_0 (by first | exact Or.inl (by omega) | exact Or.inr (by assumption)))
            exact hq _ _ (v1_.p hI19 (by decide)) (by rw [nmb_n e_ (by omega)]; exact ⟨rfl, hr20⟩)
    · refine r_bipush (v := nI 10) (pc2 := 27) d_Re_readNumber_25 rfl (by decide) ?_
      refine r_iload (pc2 := 29) d_Re_readNumber_27 rfl rfl ?_
      refine q_imulN (pc2 := 30) d_Re_readNumber_29 rfl ?_
      refine r_aload_n (x := some 731) (pc2 := 31) d_Re_readNumber_30 rfl rfl ?_
      refine q_callv (M2 := mi_Re_letterHere) (pc2 := 34) d_Re_readNumber_31 rfl k_Re_107 cm_Re_letterHere cv_Re_letterHere (sh_731 hS) (by decide) rfl rfl rfl (Nat.le_of_ble_eq_true rfl) (c_Re_letterHere hS hR hT0 v0_ hn (by omega)) (d2 := d - 1) (by omega) (Nat.le_of_eq (Nat.zero_add _)) (Nat.le_of_eq (Nat.zero_add _)) ?_
      refine q_iaddV (pc2 := 35) d_Re_readNumber_34 rfl (A := ((10 * v : Nat) : Int)) (B := byt T n q) (nI_toInt (by omega)) (ltr_i) (by constructor <;> omega) (fun y21 ey21 hy21 => ?_)
      refine r_bipush (v := nI 48) (pc2 := 37) d_Re_readNumber_35 rfl (by decide) ?_
      refine q_isubV (pc2 := 38) d_Re_readNumber_37 rfl (A := ((10 * v : Nat) : Int) + byt T n q) (B := (48 : Int)) (hy21) (nI_toInt (by omega)) (by constructor <;> omega) (fun y22 ey22 hy22 => ?_)
      refine q_top (y := nI (10 * v + (byt T n q).toNat - 48)) (eq_nI (by first | (rw [hy22]; omega))) ?_
      refine r_istore (pc2 := 40) d_Re_readNumber_38 rfl (Nat.le_of_ble_eq_true rfl) ?_
      refine r_aload_n (x := some 731) (pc2 := 41) d_Re_readNumber_40 rfl rfl ?_
      refine r_dup (pc2 := 42) d_Re_readNumber_41 rfl rfl ?_
      refine q_getI (x := nI q) (pc2 := 45) d_Re_readNumber_42 rfl k_Re_19 (by decide) (sh_731 hS) v0_.1.2.1 ?_
      refine r_iconst (v := nI 1) (pc2 := 46) d_Re_readNumber_45 rfl (by decide) ?_
      refine q_iaddN (pc2 := 47) d_Re_readNumber_46 rfl ?_
      refine q_putI (pc2 := 50) d_Re_readNumber_47 rfl k_Re_19 (Or.inl rfl) (sh_731 hS) (Or.inl rfl) (fun I23 hI23 => ?_)
      have hr24 := v0_.pl (q := q + 1) hI23
      refine q_iinc (b := 1) (pc2 := 53) d_Re_readNumber_50 rfl rfl (by decide) (Nat.le_of_ble_eq_true rfl) ?_
      refine r_goto (tgt := 12) d_Re_readNumber_53 rfl ?_
      refine Run.sub (l2 := [(0, .ref 731), (1, .int (nI m)), (2, .int (nI lo)), (3, .int (nI hi)), (4, .int (nI p)), (5, .int (nI (10 * v + (byt T n q).toNat - 48))), (6, .int (nI (i + 1)))]) ⟨rfl, rfl, rfl, rfl, rfl, rfl, rfl, trivial⟩ ?_
      exact ih_ (m - (i + 1)) (by omega) (i + 1) (q + 1) (10 * v + (byt T n q).toNat - 48) I23 rfl (hr24) ((v1_.p hI23 (by decide))) (v2_.trans (nmL_st (by omega) (by assumption))) (by have h10 := Nat.pow_succ 10 i; omega) (by omega) (by omega) (by omega)
theorem c_Re_readNumber {d : Nat} {J : Nat → Nat → Int32} {R : Nat → Nat → Option Nat} {L : Nat → Nat → Int64} {sh : Nat → Nat × Nat} {N : Nat} (hS : ShOK sh) (hR : RfOK R) (hT0 : R 731 0 = some 730) {T : Nat → Int32} {n p : Nat} {due : Bool} {ob : Nat} {ns : List Nd} {W Lo : List Nat} (hr : RS T n p due ob ns W Lo J) (hn : n ≤ 250) (hp : p ≤ n) {m lo hi : Nat} (hm : m ≤ 6) (hlo : lo ≤ 999999) (hhi : hi ≤ 999999) (hd : 1 ≤ d) : Mt mi_Re_readNumber d 0 0 [.ref 731, .int (nI m), .int (nI lo), .int (nI hi)] (J, R, L, sh, N) (fun x h2 => ∃ K, h2 = (K, R, L, sh, N) ∧ Fr2 J K ∧ NmP T n p due ob ns W Lo (nmb T n m p lo hi) x K) := by
  refine Mt.of pn_Re (Nat.le_of_ble_eq_true rfl) ?_
  show Run mi_Re_readNumber d 0 0 0 [(0, .ref 731), (1, .int (nI m)), (2, .int (nI lo)), (3, .int (nI hi))] [] (J, R, L, sh, N) _
  refine r_aload_n (x := some 731) (pc2 := 1) d_Re_readNumber_0 rfl rfl ?_
  refine q_getI (x := nI p) (pc2 := 4) d_Re_readNumber_1 rfl k_Re_19 (by decide) (sh_731 hS) hr.1.2.1 ?_
  refine r_istore (pc2 := 6) d_Re_readNumber_4 rfl (Nat.le_of_ble_eq_true rfl) ?_
  refine r_iconst (v := nI 0) (pc2 := 7) d_Re_readNumber_6 rfl (by decide) ?_
  refine r_istore (pc2 := 9) d_Re_readNumber_7 rfl (Nat.le_of_ble_eq_true rfl) ?_
  refine r_iconst (v := nI 0) (pc2 := 10) d_Re_readNumber_9 rfl (by decide) ?_
  refine r_istore (pc2 := 12) d_Re_readNumber_10 rfl (Nat.le_of_ble_eq_true rfl) ?_
  refine Run.sub (l2 := [(0, .ref 731), (1, .int (nI m)), (2, .int (nI lo)), (3, .int (nI hi)), (4, .int (nI p)), (5, .int (nI 0)), (6, .int (nI 0))]) ⟨rfl, rfl, rfl, rfl, rfl, rfl, rfl, trivial⟩ ?_
  exact l_Re_readNumber hS hR hT0 hn hp hm hlo hhi (fun x K a b => ⟨K, rfl, a, b⟩) hd _ 0 p 0 J rfl hr Fr2.rf rfl (by decide) (Nat.zero_le _) (Nat.le_refl _) hp
theorem c_Re_readTest {d : Nat} {J : Nat → Nat → Int32} {R : Nat → Nat → Option Nat} {L : Nat → Nat → Int64} {sh : Nat → Nat × Nat} {N : Nat} (hS : ShOK sh) (hR : RfOK R) (hT0 : R 731 0 = some 730) {T : Nat → Int32} {n p : Nat} {ob : Nat} {ns : List Nd} {W Lo : List Nat} (hr : RS T n p true ob ns W Lo J) (hn : n ≤ 250) (hp : p < n) (ha : 97 ≤ byt T n p ∧ byt T n p ≤ 100) (h1 : ns.length < 250) (h2 : Lo.length < 250) (hd : 3 ≤ d) : Mt mi_Re_readTest d 0 0 [.ref 731, .int (nI ((byt T n p).toNat - 97))] (J, R, L, sh, N) (fun x h2 => ∃ K, h2 = (K, R, L, sh, N) ∧ FrV J K ∧ OpP T n ob ns W Lo (opd T n p) x K) := by
  refine Mt.of pn_Re (Nat.le_of_ble_eq_true rfl) ?_
  show Run mi_Re_readTest d 0 0 0 [(0, .ref 731), (1, .int (nI ((byt T n p).toNat - 97)))] [] (J, R, L, sh, N) _
  refine r_aload_n (x := some 731) (pc2 := 1) d_Re_readTest_0 rfl rfl ?_
  refine r_dup (pc2 := 2) d_Re_readTest_1 rfl rfl ?_
  refine q_getI (x := nI p) (pc2 := 5) d_Re_readTest_2 rfl k_Re_19 (by decide) (sh_731 hS) hr.1.2.1 ?_
  refine r_iconst (v := nI 1) (pc2 := 6) d_Re_readTest_5 rfl (by decide) ?_
  refine q_iaddN (pc2 := 7) d_Re_readTest_6 rfl ?_
  refine q_putI (pc2 := 10) d_Re_readTest_7 rfl k_Re_19 (Or.inl rfl) (sh_731 hS) (Or.inl rfl) (fun I1 hI1 => ?_)
  have hr2 := hr.pl (q := p + 1) hI1
  refine r_aload_n (x := some 731) (pc2 := 11) d_Re_readTest_10 rfl rfl ?_
  refine q_callv (M2 := mi_Re_letterHere) (pc2 := 14) d_Re_readTest_11 rfl k_Re_107 cm_Re_letterHere cv_Re_letterHere (sh_731 hS) (by decide) rfl rfl rfl (Nat.le_of_ble_eq_true rfl) (c_Re_letterHere hS hR hT0 hr2 hn (by omega)) (d2 := d - 1) (by omega) (Nat.le_of_eq (Nat.zero_add _)) (Nat.le_of_eq (Nat.zero_add _)) ?_
  refine r_istore_n (pc2 := 15) d_Re_readTest_14 rfl rfl (Nat.le_of_ble_eq_true rfl) ?_
  refine r_iload_n (pc2 := 16) d_Re_readTest_15 rfl rfl ?_
  refine r_bipush (v := nI 60) (pc2 := 18) d_Re_readTest_16 rfl (by decide) ?_
  refine q_icmp_eq (tgt := 35) (A := byt T n (p + 1)) (B := (60 : Int)) (pc2 := 21) d_Re_readTest_18 rfl rfl (ltr_i) (nI_toInt (by omega)) (fun c3 => ?_) (fun c3 => ?_)
  · have hl1 : p + 1 < n := byt_lt (T := T) (by omega)
    refine r_aload_n (x := some 731) (pc2 := 36) d_Re_readTest_35 rfl rfl ?_
    refine r_dup (pc2 := 37) d_Re_readTest_36 rfl rfl ?_
    refine q_getI (x := nI (p + 1)) (pc2 := 40) d_Re_readTest_37 rfl k_Re_19 (by decide) (sh_731 hS) hr2.1.2.1 ?_
    refine r_iconst (v := nI 1) (pc2 := 41) d_Re_readTest_40 rfl (by decide) ?_
    refine q_iaddN (pc2 := 42) d_Re_readTest_41 rfl ?_
    refine q_putI (pc2 := 45) d_Re_readTest_42 rfl k_Re_19 (Or.inl rfl) (sh_731 hS) (Or.inl rfl) (fun I4 hI4 => ?_)
    have hr5 := hr2.pl (q := p + 2) hI4
    refine r_aload_n (x := some 731) (pc2 := 46) d_Re_readTest_45 rfl rfl ?_
    refine q_callv (M2 := mi_Re_isDigitHere) (pc2 := 49) d_Re_readTest_46 rfl k_Re_111 cm_Re_isDigitHere cv_Re_isDigitHere (sh_731 hS) (by decide) rfl rfl rfl (Nat.le_of_ble_eq_true rfl) (c_Re_isDigitHere hS hR hT0 hr5 hn (by omega)) (d2 := d - 1) (by omega) (Nat.le_of_eq (Nat.zero_add _)) (Nat.le_of_eq (Nat.zero_add _)) ?_
    refine q_bif_ne (tgt := 54) (pc2 := 52) d_Re_readTest_49 rfl rfl (fun c6 => ?_) (fun c6 => ?_)
    · have hl2 : p + 2 < n := byt_lt (T := T) (by omega)
      refine r_aload_n (x := some 731) (pc2 := 55) d_Re_readTest_54 rfl rfl ?_
      refine q_callv (M2 := mi_Re_letterHere) (pc2 := 58) d_Re_readTest_55 rfl k_Re_107 cm_Re_letterHere cv_Re_letterHere (sh_731 hS) (by decide) rfl rfl rfl (Nat.le_of_ble_eq_true rfl) (c_Re_letterHere hS hR hT0 hr5 hn (by omega)) (d2 := d - 1) (by omega) (Nat.le_of_eq (Nat.zero_add _)) (Nat.le_of_eq (Nat.zero_add _)) ?_
      refine r_bipush (v := nI 48) (pc2 := 60) d_Re_readTest_58 rfl (by decide) ?_
      refine q_isubV (pc2 := 61) d_Re_readTest_60 rfl (A := byt T n (p + 2)) (B := (48 : Int)) (ltr_i) (nI_toInt (by omega)) (by constructor <;> omega) (fun y7 ey7 hy7 => ?_)
      refine q_top (y := nI ((byt T n (p + 2)).toNat - 48)) (eq_nI (by rw [hy7]; omega)) ?_
      refine r_istore_n (pc2 := 62) d_Re_readTest_61 rfl rfl (Nat.le_of_ble_eq_true rfl) ?_
      refine r_aload_n (x := some 731) (pc2 := 63) d_Re_readTest_62 rfl rfl ?_
      refine r_dup (pc2 := 64) d_Re_readTest_63 rfl rfl ?_
      refine q_getI (x := nI (p + 2)) (pc2 := 67) d_Re_readTest_64 rfl k_Re_19 (by decide) (sh_731 hS) hr5.1.2.1 ?_
      refine r_iconst (v := nI 1) (pc2 := 68) d_Re_readTest_67 rfl (by decide) ?_
      refine q_iaddN (pc2 := 69) d_Re_readTest_68 rfl ?_
      refine q_putI (pc2 := 72) d_Re_readTest_69 rfl k_Re_19 (Or.inl rfl) (sh_731 hS) (Or.inl rfl) (fun I8 hI8 => ?_)
      have hr9 := hr5.pl (q := p + 3) hI8
      refine r_aload_n (x := some 731) (pc2 := 73) d_Re_readTest_72 rfl rfl ?_
      refine r_iconst (v := nI 5) (pc2 := 74) d_Re_readTest_73 rfl (by decide) ?_
      refine r_iload_n (pc2 := 75) d_Re_readTest_74 rfl rfl ?_
      refine r_iload_n (pc2 := 76) d_Re_readTest_75 rfl rfl ?_
      refine r_iload_n (pc2 := 77) d_Re_readTest_76 rfl rfl ?_
      refine q_top (y := nI ((byt T n (p + 1)).toNat)) (eq_nI (by rw [ltr_i]; omega)) ?_
      refine r_callv (M2 := mi_Re_addOperand) (pc2 := 80) d_Re_readTest_77 rfl k_Re_97 cm_Re_addOperand cv_Re_addOperand (sh_731 hS) (by decide) rfl rfl rfl (Nat.le_of_ble_eq_true rfl) (c_Re_addOperand hS hR hT0 hr9 hn (by omega) (k := 5) (a := (byt T n p).toNat - 97) (b := (byt T n (p + 2)).toNat - 48) (s := (byt T n (p + 1)).toNat) (by omega) (by omega) (by omega)) (d2 := d - 1) (by omega) (Nat.le_of_eq (Nat.zero_add _)) (Nat.le_of_eq (Nat.zero_add _)) (fun r2 h2 hq2 => ?_)
      obtain ⟨rfl, K10, rfl, hfK10, hrK10⟩ := hq2
      refine Run.ret (some (.int (nI 1))) d_Re_readTest_80 ⟨_, rfl, by decide⟩ ?_
      exact ⟨_, rfl, ((((FrV.rf.p hI1 (by decide)).p hI4 (by decide)).p hI8 (by decide)).t hfK10), by rw [opd_t ha, if_pos (by omega), nmb_1, if_pos (by omega)]; exact ⟨rfl, hrK10⟩⟩
    · refine r_iconst (v := nI 0) (pc2 := 53) d_Re_readTest_52 rfl (by decide) ?_
      refine Run.ret (some (.int (nI 0))) d_Re_readTest_53 ⟨_, rfl, by decide⟩ ?_
      exact ⟨_, rfl, ((FrV.rf.p hI1 (by decide)).p hI4 (by decide)), by rw [opd_t ha, if_pos (by omega), nmb_1, if_neg (by omega)]; exact ⟨rfl, hr5⟩⟩
  · refine r_iload_n (pc2 := 22) d_Re_readTest_21 rfl rfl ?_
    refine r_bipush (v := nI 61) (pc2 := 24) d_Re_readTest_22 rfl (by decide) ?_
    refine q_icmp_eq (tgt := 35) (A := byt T n (p + 1)) (B := (61 : Int)) (pc2 := 27) d_Re_readTest_24 rfl rfl (ltr_i) (nI_toInt (by omega)) (fun c11 => ?_) (fun c11 => ?_)
    · have hl1 : p + 1 < n := byt_lt (T := T) (by omega)
      refine r_aload_n (x := some 731) (pc2 := 36) d_Re_readTest_35 rfl rfl ?_
      refine r_dup (pc2 := 37) d_Re_readTest_36 rfl rfl ?_
      refine q_getI (x := nI (p + 1)) (pc2 := 40) d_Re_readTest_37 rfl k_Re_19 (by decide) (sh_731 hS) hr2.1.2.1 ?_
      refine r_iconst (v := nI 1) (pc2 := 41) d_Re_readTest_40 rfl (by decide) ?_
      refine q_iaddN (pc2 := 42) d_Re_readTest_41 rfl ?_
      refine q_putI (pc2 := 45) d_Re_readTest_42 rfl k_Re_19 (Or.inl rfl) (sh_731 hS) (Or.inl rfl) (fun I12 hI12 => ?_)
      have hr13 := hr2.pl (q := p + 2) hI12
      refine r_aload_n (x := some 731) (pc2 := 46) d_Re_readTest_45 rfl rfl ?_
      refine q_callv (M2 := mi_Re_isDigitHere) (pc2 := 49) d_Re_readTest_46 rfl k_Re_111 cm_Re_isDigitHere cv_Re_isDigitHere (sh_731 hS) (by decide) rfl rfl rfl (Nat.le_of_ble_eq_true rfl) (c_Re_isDigitHere hS hR hT0 hr13 hn (by omega)) (d2 := d - 1) (by omega) (Nat.le_of_eq (Nat.zero_add _)) (Nat.le_of_eq (Nat.zero_add _)) ?_
      refine q_bif_ne (tgt := 54) (pc2 := 52) d_Re_readTest_49 rfl rfl (fun c14 => ?_) (fun c14 => ?_)
      · have hl2 : p + 2 < n := byt_lt (T := T) (by omega)
        refine r_aload_n (x := some 731) (pc2 := 55) d_Re_readTest_54 rfl rfl ?_
        refine q_callv (M2 := mi_Re_letterHere) (pc2 := 58) d_Re_readTest_55 rfl k_Re_107 cm_Re_letterHere cv_Re_letterHere (sh_731 hS) (by decide) rfl rfl rfl (Nat.le_of_ble_eq_true rfl) (c_Re_letterHere hS hR hT0 hr13 hn (by omega)) (d2 := d - 1) (by omega) (Nat.le_of_eq (Nat.zero_add _)) (Nat.le_of_eq (Nat.zero_add _)) ?_
        refine r_bipush (v := nI 48) (pc2 := 60) d_Re_readTest_58 rfl (by decide) ?_
        refine q_isubV (pc2 := 61) d_Re_readTest_60 rfl (A := byt T n (p + 2)) (B := (48 : Int)) (ltr_i) (nI_toInt (by omega)) (by constructor <;> omega) (fun y15 ey15 hy15 => ?_)
        refine q_top (y := nI ((byt T n (p + 2)).toNat - 48)) (eq_nI (by rw [hy15]; omega)) ?_
        refine r_istore_n (pc2 := 62) d_Re_readTest_61 rfl rfl (Nat.le_of_ble_eq_true rfl) ?_
        refine r_aload_n (x := some 731) (pc2 := 63) d_Re_readTest_62 rfl rfl ?_
        refine r_dup (pc2 := 64) d_Re_readTest_63 rfl rfl ?_
        refine q_getI (x := nI (p + 2)) (pc2 := 67) d_Re_readTest_64 rfl k_Re_19 (by decide) (sh_731 hS) hr13.1.2.1 ?_
        refine r_iconst (v := nI 1) (pc2 := 68) d_Re_readTest_67 rfl (by decide) ?_
        refine q_iaddN (pc2 := 69) d_Re_readTest_68 rfl ?_
        refine q_putI (pc2 := 72) d_Re_readTest_69 rfl k_Re_19 (Or.inl rfl) (sh_731 hS) (Or.inl rfl) (fun I16 hI16 => ?_)
        have hr17 := hr13.pl (q := p + 3) hI16
        refine r_aload_n (x := some 731) (pc2 := 73) d_Re_readTest_72 rfl rfl ?_
        refine r_iconst (v := nI 5) (pc2 := 74) d_Re_readTest_73 rfl (by decide) ?_
        refine r_iload_n (pc2 := 75) d_Re_readTest_74 rfl rfl ?_
        refine r_iload_n (pc2 := 76) d_Re_readTest_75 rfl rfl ?_
        refine r_iload_n (pc2 := 77) d_Re_readTest_76 rfl rfl ?_
        refine q_top (y := nI ((byt T n (p + 1)).toNat)) (eq_nI (by rw [ltr_i]; omega)) ?_
        refine r_callv (M2 := mi_Re_addOperand) (pc2 := 80) d_Re_readTest_77 rfl k_Re_97 cm_Re_addOperand cv_Re_addOperand (sh_731 hS) (by decide) rfl rfl rfl (Nat.le_of_ble_eq_true rfl) (c_Re_addOperand hS hR hT0 hr17 hn (by omega) (k := 5) (a := (byt T n p).toNat - 97) (b := (byt T n (p + 2)).toNat - 48) (s := (byt T n (p + 1)).toNat) (by omega) (by omega) (by omega)) (d2 := d - 1) (by omega) (Nat.le_of_eq (Nat.zero_add _)) (Nat.le_of_eq (Nat.zero_add _)) (fun r2 h2 hq2 => ?_)
        obtain ⟨rfl, K18, rfl, hfK18, hrK18⟩ := hq2
        refine Run.ret (some (.int (nI 1))) d_Re_readTest_80 ⟨_, rfl, by decide⟩ ?_
        exact ⟨_, rfl, ((((FrV.rf.p hI1 (by decide)).p hI12 (by decide)).p hI16 (by decide)).t hfK18), by rw [opd_t ha, if_pos (by omega), nmb_1, if_pos (by omega)]; exact ⟨rfl, hrK18⟩⟩
      · refine r_iconst (v := nI 0) (pc2 := 53) d_Re_readTest_52 rfl (by decide) ?_
        refine Run.ret (some (.int (nI 0))) d_Re_readTest_53 ⟨_, rfl, by decide⟩ ?_
        exact ⟨_, rfl, ((FrV.rf.p hI1 (by decide)).p hI12 (by decide)), by rw [opd_t ha, if_pos (by omega), nmb_1, if_neg (by omega)]; exact ⟨rfl, hr13⟩⟩
    · refine r_iload_n (pc2 := 28) d_Re_readTest_27 rfl rfl ?_
      refine r_bipush (v := nI 62) (pc2 := 30) d_Re_readTest_28 rfl (by decide) ?_
      refine q_icmp_eq (tgt := 35) (A := byt T n (p + 1)) (B := (62 : Int)) (pc2 := 33) d_Re_readTest_30 rfl rfl (ltr_i) (nI_toInt (by omega)) (fun c19 => ?_) (fun c19 => ?_)
      · have hl1 : p + 1 < n := byt_lt (T := T) (by omega)
        refine r_aload_n (x := some 731) (pc2 := 36) d_Re_readTest_35 rfl rfl ?_
        refine r_dup (pc2 := 37) d_Re_readTest_36 rfl rfl ?_
        refine q_getI (x := nI (p + 1)) (pc2 := 40) d_Re_readTest_37 rfl k_Re_19 (by decide) (sh_731 hS) hr2.1.2.1 ?_
        refine r_iconst (v := nI 1) (pc2 := 41) d_Re_readTest_40 rfl (by decide) ?_
        refine q_iaddN (pc2 := 42) d_Re_readTest_41 rfl ?_
        refine q_putI (pc2 := 45) d_Re_readTest_42 rfl k_Re_19 (Or.inl rfl) (sh_731 hS) (Or.inl rfl) (fun I20 hI20 => ?_)
        have hr21 := hr2.pl (q := p + 2) hI20
        refine r_aload_n (x := some 731) (pc2 := 46) d_Re_readTest_45 rfl rfl ?_
        refine q_callv (M2 := mi_Re_isDigitHere) (pc2 := 49) d_Re_readTest_46 rfl k_Re_111 cm_Re_isDigitHere cv_Re_isDigitHere (sh_731 hS) (by decide) rfl rfl rfl (Nat.le_of_ble_eq_true rfl) (c_Re_isDigitHere hS hR hT0 hr21 hn (by omega)) (d2 := d - 1) (by omega) (Nat.le_of_eq (Nat.zero_add _)) (Nat.le_of_eq (Nat.zero_add _)) ?_
        refine q_bif_ne (tgt := 54) (pc2 := 52) d_Re_readTest_49 rfl rfl (fun c22 => ?_) (fun c22 => ?_)
        · have hl2 : p + 2 < n := byt_lt (T := T) (by omega)
          refine r_aload_n (x := some 731) (pc2 := 55) d_Re_readTest_54 rfl rfl ?_
          refine q_callv (M2 := mi_Re_letterHere) (pc2 := 58) d_Re_readTest_55 rfl k_Re_107 cm_Re_letterHere cv_Re_letterHere (sh_731 hS) (by decide) rfl rfl rfl (Nat.le_of_ble_eq_true rfl) (c_Re_letterHere hS hR hT0 hr21 hn (by omega)) (d2 := d - 1) (by omega) (Nat.le_of_eq (Nat.zero_add _)) (Nat.le_of_eq (Nat.zero_add _)) ?_
          refine r_bipush (v := nI 48) (pc2 := 60) d_Re_readTest_58 rfl (by decide) ?_
          refine q_isubV (pc2 := 61) d_Re_readTest_60 rfl (A := byt T n (p + 2)) (B := (48 : Int)) (ltr_i) (nI_toInt (by omega)) (by constructor <;> omega) (fun y23 ey23 hy23 => ?_)
          refine q_top (y := nI ((byt T n (p + 2)).toNat - 48)) (eq_nI (by rw [hy23]; omega)) ?_
          refine r_istore_n (pc2 := 62) d_Re_readTest_61 rfl rfl (Nat.le_of_ble_eq_true rfl) ?_
          refine r_aload_n (x := some 731) (pc2 := 63) d_Re_readTest_62 rfl rfl ?_
          refine r_dup (pc2 := 64) d_Re_readTest_63 rfl rfl ?_
          refine q_getI (x := nI (p + 2)) (pc2 := 67) d_Re_readTest_64 rfl k_Re_19 (by decide) (sh_731 hS) hr21.1.2.1 ?_
          refine r_iconst (v := nI 1) (pc2 := 68) d_Re_readTest_67 rfl (by decide) ?_
          refine q_iaddN (pc2 := 69) d_Re_readTest_68 rfl ?_
          refine q_putI (pc2 := 72) d_Re_readTest_69 rfl k_Re_19 (Or.inl rfl) (sh_731 hS) (Or.inl rfl) (fun I24 hI24 => ?_)
          have hr25 := hr21.pl (q := p + 3) hI24
          refine r_aload_n (x := some 731) (pc2 := 73) d_Re_readTest_72 rfl rfl ?_
          refine r_iconst (v := nI 5) (pc2 := 74) d_Re_readTest_73 rfl (by decide) ?_
          refine r_iload_n (pc2 := 75) d_Re_readTest_74 rfl rfl ?_
          refine r_iload_n (pc2 := 76) d_Re_readTest_75 rfl rfl ?_
          refine r_iload_n (pc2 := 77) d_Re_readTest_76 rfl rfl ?_
          refine q_top (y := nI ((byt T n (p + 1)).toNat)) (eq_nI (by rw [ltr_i]; omega)) ?_
          refine r_callv (M2 := mi_Re_addOperand) (pc2 := 80) d_Re_readTest_77 rfl k_Re_97 cm_Re_addOperand cv_Re_addOperand (sh_731 hS) (by decide) rfl rfl rfl (Nat.le_of_ble_eq_true rfl) (c_Re_addOperand hS hR hT0 hr25 hn (by omega) (k := 5) (a := (byt T n p).toNat - 97) (b := (byt T n (p + 2)).toNat - 48) (s := (byt T n (p + 1)).toNat) (by omega) (by omega) (by omega)) (d2 := d - 1) (by omega) (Nat.le_of_eq (Nat.zero_add _)) (Nat.le_of_eq (Nat.zero_add _)) (fun r2 h2 hq2 => ?_)
          obtain ⟨rfl, K26, rfl, hfK26, hrK26⟩ := hq2
          refine Run.ret (some (.int (nI 1))) d_Re_readTest_80 ⟨_, rfl, by decide⟩ ?_
          exact ⟨_, rfl, ((((FrV.rf.p hI1 (by decide)).p hI20 (by decide)).p hI24 (by decide)).t hfK26), by rw [opd_t ha, if_pos (by omega), nmb_1, if_pos (by omega)]; exact ⟨rfl, hrK26⟩⟩
        · refine r_iconst (v := nI 0) (pc2 := 53) d_Re_readTest_52 rfl (by decide) ?_
          refine Run.ret (some (.int (nI 0))) d_Re_readTest_53 ⟨_, rfl, by decide⟩ ?_
          exact ⟨_, rfl, ((FrV.rf.p hI1 (by decide)).p hI20 (by decide)), by rw [opd_t ha, if_pos (by omega), nmb_1, if_neg (by omega)]; exact ⟨rfl, hr21⟩⟩
      · refine r_iconst (v := nI 0) (pc2 := 34) d_Re_readTest_33 rfl (by decide) ?_
        refine Run.ret (some (.int (nI 0))) d_Re_readTest_34 ⟨_, rfl, by decide⟩ ?_
        exact ⟨_, rfl, (FrV.rf.p hI1 (by decide)), by rw [opd_t ha, if_neg (by omega)]; exact ⟨rfl, hr2⟩⟩
theorem c_Re_readKeys {d : Nat} {J : Nat → Nat → Int32} {R : Nat → Nat → Option Nat} {L : Nat → Nat → Int64} {sh : Nat → Nat × Nat} {N : Nat} (hS : ShOK sh) (hR : RfOK R) (hT0 : R 731 0 = some 730) {T : Nat → Int32} {n p : Nat} {ob : Nat} {ns : List Nd} {W Lo : List Nat} (hr : RS T n p true ob ns W Lo J) (hn : n ≤ 250) (hp : p < n) (ha : byt T n p = 35) (h1 : ns.length < 250) (h2 : Lo.length < 250) (hd : 3 ≤ d) : Mt mi_Re_readKeys d 0 0 [.ref 731] (J, R, L, sh, N) (fun x h2 => ∃ K, h2 = (K, R, L, sh, N) ∧ FrV J K ∧ OpP T n ob ns W Lo (opd T n p) x K) := by
  refine Mt.of pn_Re (Nat.le_of_ble_eq_true rfl) ?_
  show Run mi_Re_readKeys d 0 0 0 [(0, .ref 731)] [] (J, R, L, sh, N) _
  refine r_aload_n (x := some 731) (pc2 := 1) d_Re_readKeys_0 rfl rfl ?_
  refine r_dup (pc2 := 2) d_Re_readKeys_1 rfl rfl ?_
  refine q_getI (x := nI p) (pc2 := 5) d_Re_readKeys_2 rfl k_Re_19 (by decide) (sh_731 hS) hr.1.2.1 ?_
  refine r_iconst (v := nI 1) (pc2 := 6) d_Re_readKeys_5 rfl (by decide) ?_
  refine q_iaddN (pc2 := 7) d_Re_readKeys_6 rfl ?_
  refine q_putI (pc2 := 10) d_Re_readKeys_7 rfl k_Re_19 (Or.inl rfl) (sh_731 hS) (Or.inl rfl) (fun I1 hI1 => ?_)
  have hr2 := hr.pl (q := p + 1) hI1
  refine r_aload_n (x := some 731) (pc2 := 11) d_Re_readKeys_10 rfl rfl ?_
  refine r_bipush (v := nI 6) (pc2 := 13) d_Re_readKeys_11 rfl (by decide) ?_
  refine r_iconst (v := nI 0) (pc2 := 14) d_Re_readKeys_13 rfl (by decide) ?_
  refine r_ldc (pc2 := 16) d_Re_readKeys_14 rfl k_Re_114 ?_
  refine q_top (y := nI 999999) (by decide) ?_
  refine r_callv (M2 := mi_Re_readNumber) (pc2 := 19) d_Re_readKeys_16 rfl k_Re_115 cm_Re_readNumber cv_Re_readNumber (sh_731 hS) (by decide) rfl rfl rfl (Nat.le_of_ble_eq_true rfl) (c_Re_readNumber hS hR hT0 hr2 hn (by omega) (m := 6) (lo := 0) (hi := 999999) (by omega) (by omega) (by omega) (by omega)) (d2 := d - 1) (by omega) (Nat.le_of_eq (Nat.zero_add _)) (Nat.le_of_eq (Nat.zero_add _)) (fun r2 h2 hq2 => ?_)
  obtain ⟨K3, rfl, hfK3, hmK3⟩ := hq2
  cases hoK3 : nmb T n 6 (p + 1) 0 999999 with
  | none =>
    rw [hoK3] at hmK3
    obtain ⟨rfl, hrK3⟩ := hmK3
    refine r_istore_n (pc2 := 20) d_Re_readKeys_19 rfl rfl (Nat.le_of_ble_eq_true rfl) ?_
    refine r_iload_n (pc2 := 21) d_Re_readKeys_20 rfl rfl ?_
    refine r_iconst (v := (-1 : Int32)) (pc2 := 22) d_Re_readKeys_21 rfl (by decide) ?_
    refine q_icmp_eq (tgt := 34) (A := (-1 : Int)) (B := (-1 : Int)) (pc2 := 25) d_Re_readKeys_22 rfl rfl (by decide) (by decide) (fun c4 => ?_) (fun c4 => ?_)
    rotate_left
    · exfalso; omega
    refine r_iconst (v := nI 0) (pc2 := 35) d_Re_readKeys_34 rfl (by decide) ?_
    refine Run.ret (some (.int (nI 0))) d_Re_readKeys_35 ⟨_, rfl, by decide⟩ ?_
    have e_ : opd T n p = .inl (p + 1) := by rw [opd_k ha, hoK3]
    exact ⟨_, rfl, ((FrV.rf.p hI1 (by decide)).t hfK3.v), by rw [e_]; exact ⟨rfl, hrK3⟩⟩
  | some rK3 =>
    obtain ⟨eK3, vK3⟩ := rK3
    rw [hoK3] at hmK3
    obtain ⟨rfl, hrK3⟩ := hmK3
    have hnbK3 := nmb_p (by omega) hoK3
    refine r_istore_n (pc2 := 20) d_Re_readKeys_19 rfl rfl (Nat.le_of_ble_eq_true rfl) ?_
    refine r_iload_n (pc2 := 21) d_Re_readKeys_20 rfl rfl ?_
    refine r_iconst (v := (-1 : Int32)) (pc2 := 22) d_Re_readKeys_21 rfl (by decide) ?_
    refine q_icmp_eq (tgt := 34) (A := ((vK3 : Nat) : Int)) (B := (-1 : Int)) (pc2 := 25) d_Re_readKeys_22 rfl rfl (nI_toInt (by omega)) (by decide) (fun c5 => ?_) (fun c5 => ?_)
    · exfalso; omega
    refine r_aload_n (x := some 731) (pc2 := 26) d_Re_readKeys_25 rfl rfl ?_
    refine q_callv (M2 := mi_Re_letterHere) (pc2 := 29) d_Re_readKeys_26 rfl k_Re_107 cm_Re_letterHere cv_Re_letterHere (sh_731 hS) (by decide) rfl rfl rfl (Nat.le_of_ble_eq_true rfl) (c_Re_letterHere hS hR hT0 hrK3 hn (by omega)) (d2 := d - 1) (by omega) (Nat.le_of_eq (Nat.zero_add _)) (Nat.le_of_eq (Nat.zero_add _)) ?_
    refine r_bipush (v := nI 45) (pc2 := 31) d_Re_readKeys_29 rfl (by decide) ?_
    refine q_icmp_eq (tgt := 36) (A := byt T n eK3) (B := (45 : Int)) (pc2 := 34) d_Re_readKeys_31 rfl rfl (ltr_i) (nI_toInt (by omega)) (fun c6 => ?_) (fun c6 => ?_)
    · have hl1 : eK3 < n := byt_lt (T := T) (by omega)
      refine r_aload_n (x := some 731) (pc2 := 37) d_Re_readKeys_36 rfl rfl ?_
      refine r_dup (pc2 := 38) d_Re_readKeys_37 rfl rfl ?_
      refine q_getI (x := nI eK3) (pc2 := 41) d_Re_readKeys_38 rfl k_Re_19 (by decide) (sh_731 hS) hrK3.1.2.1 ?_
      refine r_iconst (v := nI 1) (pc2 := 42) d_Re_readKeys_41 rfl (by decide) ?_
      refine q_iaddN (pc2 := 43) d_Re_readKeys_42 rfl ?_
      refine q_putI (pc2 := 46) d_Re_readKeys_43 rfl k_Re_19 (Or.inl rfl) (sh_731 hS) (Or.inl rfl) (fun I7 hI7 => ?_)
      have hr8 := hrK3.pl (q := eK3 + 1) hI7
      refine r_aload_n (x := some 731) (pc2 := 47) d_Re_readKeys_46 rfl rfl ?_
      refine r_bipush (v := nI 6) (pc2 := 49) d_Re_readKeys_47 rfl (by decide) ?_
      refine r_iload_n (pc2 := 50) d_Re_readKeys_49 rfl rfl ?_
      refine r_ldc (pc2 := 52) d_Re_readKeys_50 rfl k_Re_114 ?_
      refine q_top (y := nI 999999) (by decide) ?_
      refine r_callv (M2 := mi_Re_readNumber) (pc2 := 55) d_Re_readKeys_52 rfl k_Re_115 cm_Re_readNumber cv_Re_readNumber (sh_731 hS) (by decide) rfl rfl rfl (Nat.le_of_ble_eq_true rfl) (c_Re_readNumber hS hR hT0 hr8 hn (by omega) (m := 6) (lo := vK3) (hi := 999999) (by omega) (by omega) (by omega) (by omega)) (d2 := d - 1) (by omega) (Nat.le_of_eq (Nat.zero_add _)) (Nat.le_of_eq (Nat.zero_add _)) (fun r2 h2 hq2 => ?_)
      obtain ⟨K9, rfl, hfK9, hmK9⟩ := hq2
      cases hoK9 : nmb T n 6 (eK3 + 1) vK3 999999 with
      | none =>
        rw [hoK9] at hmK9
        obtain ⟨rfl, hrK9⟩ := hmK9
        refine r_istore_n (pc2 := 56) d_Re_readKeys_55 rfl rfl (Nat.le_of_ble_eq_true rfl) ?_
        refine r_iload_n (pc2 := 57) d_Re_readKeys_56 rfl rfl ?_
        refine r_iconst (v := (-1 : Int32)) (pc2 := 58) d_Re_readKeys_57 rfl (by decide) ?_
        refine q_icmp_eq (tgt := 77) (A := (-1 : Int)) (B := (-1 : Int)) (pc2 := 61) d_Re_readKeys_58 rfl rfl (by decide) (by decide) (fun c10 => ?_) (fun c10 => ?_)
        rotate_left
        · exfalso; omega
        refine r_iconst (v := nI 0) (pc2 := 78) d_Re_readKeys_77 rfl (by decide) ?_
        refine Run.ret (some (.int (nI 0))) d_Re_readKeys_78 ⟨_, rfl, by decide⟩ ?_
        have e_ : opd T n p = .inl (eK3 + 1) := by rw [opd_k ha, hoK3]; dsimp only; rw [if_pos (by omega), hoK9]
        exact ⟨_, rfl, ((((FrV.rf.p hI1 (by decide)).t hfK3.v).p hI7 (by decide)).t hfK9.v), by rw [e_]; exact ⟨rfl, hrK9⟩⟩
      | some rK9 =>
        obtain ⟨eK9, vK9⟩ := rK9
        rw [hoK9] at hmK9
        obtain ⟨rfl, hrK9⟩ := hmK9
        have hnbK9 := nmb_p (by omega) hoK9
        refine r_istore_n (pc2 := 56) d_Re_readKeys_55 rfl rfl (Nat.le_of_ble_eq_true rfl) ?_
        refine r_iload_n (pc2 := 57) d_Re_readKeys_56 rfl rfl ?_
        refine r_iconst (v := (-1 : Int32)) (pc2 := 58) d_Re_readKeys_57 rfl (by decide) ?_
        refine q_icmp_eq (tgt := 77) (A := ((vK9 : Nat) : Int)) (B := (-1 : Int)) (pc2 := 61) d_Re_readKeys_58 rfl rfl (nI_toInt (by omega)) (by decide) (fun c11 => ?_) (fun c11 => ?_)
        · exfalso; omega
        refine r_aload_n (x := some 731) (pc2 := 62) d_Re_readKeys_61 rfl rfl ?_
        refine r_bipush (v := nI 6) (pc2 := 64) d_Re_readKeys_62 rfl (by decide) ?_
        refine r_iload_n (pc2 := 65) d_Re_readKeys_64 rfl rfl ?_
        refine r_iload_n (pc2 := 66) d_Re_readKeys_65 rfl rfl ?_
        refine r_iconst (v := nI 0) (pc2 := 67) d_Re_readKeys_66 rfl (by decide) ?_
        refine r_callv (M2 := mi_Re_addOperand) (pc2 := 70) d_Re_readKeys_67 rfl k_Re_97 cm_Re_addOperand cv_Re_addOperand (sh_731 hS) (by decide) rfl rfl rfl (Nat.le_of_ble_eq_true rfl) (c_Re_addOperand hS hR hT0 hrK9 hn (by omega) (k := 6) (a := vK3) (b := vK9) (s := 0) (by omega) (by omega) (by omega)) (d2 := d - 1) (by omega) (Nat.le_of_eq (Nat.zero_add _)) (Nat.le_of_eq (Nat.zero_add _)) (fun r2 h2 hq2 => ?_)
        obtain ⟨rfl, K12, rfl, hfK12, hrK12⟩ := hq2
        refine q_if_eq (tgt := 77) (A := (1 : Int)) (pc2 := 73) d_Re_readKeys_70 rfl rfl (nI_toInt (by omega)) (fun c13 => ?_) (fun c13 => ?_)
        · exfalso; omega
        refine r_iconst (v := nI 1) (pc2 := 74) d_Re_readKeys_73 rfl (by decide) ?_
        refine r_goto (tgt := 78) d_Re_readKeys_74 rfl ?_
        refine Run.ret (some (.int (nI 1))) d_Re_readKeys_78 ⟨_, rfl, by decide⟩ ?_
        have e_ : opd T n p = .inr (eK9, (6, vK3, vK9, 0)) := by rw [opd_k ha, hoK3]; dsimp only; rw [if_pos (by omega), hoK9]
        exact ⟨_, rfl, (((((FrV.rf.p hI1 (by decide)).t hfK3.v).p hI7 (by decide)).t hfK9.v).t hfK12), by rw [e_]; exact ⟨rfl, hrK12⟩⟩
    · refine r_iconst (v := nI 0) (pc2 := 35) d_Re_readKeys_34 rfl (by decide) ?_
      refine Run.ret (some (.int (nI 0))) d_Re_readKeys_35 ⟨_, rfl, by decide⟩ ?_
      have e_ : opd T n p = .inl eK3 := by rw [opd_k ha, hoK3]; exact if_neg (by omega)
      exact ⟨_, rfl, ((FrV.rf.p hI1 (by decide)).t hfK3.v), by rw [e_]; exact ⟨rfl, hrK3⟩⟩
