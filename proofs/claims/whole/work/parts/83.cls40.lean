/-! THE CLASS: shelves -/
/-! ===== shelves ===== -/
/-- what shelf s of the class holds, and what the reference tells of it: sort a, size b, tree z, elements E -/
def SH1 (K F C S : Nat → Int32) (I : Nat → Nat → Int32) (R : Nat → Nat → Option Nat) (L : Nat → Nat → Int64) (sh : Nat → Nat × Nat) (nt s : Nat) (a b z : Int32) (E : Nat → Int64) : Prop :=
  (a.toInt = -1 ∧ I (745 + 2 * s) 0 = -1 ∧ R (745 + 2 * s) 3 = none) ∨
  ((0 ≤ a.toInt ∧ a.toInt ≤ 4) ∧ I (745 + 2 * s) 0 = a ∧ I (745 + 2 * s) 1 = b ∧ (∃ y : Nat, b = nI y ∧ y ≤ 40) ∧ R (745 + 2 * s) 3 = none ∧ ∀ j, j < 40 → L (746 + 2 * s) j = E (40 * s + j)) ∨
  (∃ c m bb n, R (745 + 2 * s) 3 = some c ∧ CO K F C S I R sh c m bb ∧ n < m ∧ bb + m ≤ nt ∧ I (745 + 2 * s) 0 = -1 ∧ I (745 + 2 * s) 4 = nI n ∧ z = nI (bb + n) ∧ a = nI 10 + K (bb + n))
def SHR (K F C S : Nat → Int32) (I : Nat → Nat → Int32) (R : Nat → Nat → Option Nat) (L : Nat → Nat → Int64) (sh : Nat → Nat × Nat) (nt : Nat) (so sz tz : Nat → Int32) (E : Nat → Int64) : Prop := ∀ s, s < 8 → SH1 K F C S I R L sh nt s (so s) (sz s) (tz s) E
/-- a call that changes shelves -/
def XH (I : Nat → Nat → Int32) (R : Nat → Nat → Option Nat) (L : Nat → Nat → Int64) (sh : Nat → Nat × Nat) (N : Nat) (x : Out) (P : (Nat → Nat → Int32) → (Nat → Nat → Option Nat) → (Nat → Nat → Int64) → Prop) : Option Value → HS → Prop :=
  fun r h' => ∃ K R' L', h' = (K, R', L', sh, N) ∧ r = some (.int (ansOf x)) ∧ (match x with | .inl _ => P K R' L' | .inr _ => R' = R ∧ L' = L ∧ FrX sh (fin1 744 I x) K)
theorem XH.val {I K : Nat → Nat → Int32} {R R' : Nat → Nat → Option Nat} {L L' : Nat → Nat → Int64} {sh : Nat → Nat × Nat} {N : Nat} {x : Out} {P : (Nat → Nat → Int32) → (Nat → Nat → Option Nat) → (Nat → Nat → Int64) → Prop} {v : Int32} (e : x = .inl v) (hK : P K R' L') : XH I R L sh N x P (some (.int v)) (K, R', L', sh, N) := by
  subst e; exact ⟨K, R', L', rfl, rfl, hK⟩
theorem XH.bad {I J K : Nat → Nat → Int32} {R : Nat → Nat → Option Nat} {L : Nat → Nat → Int64} {sh : Nat → Nat × Nat} {N : Nat} {x : Out} {P : (Nat → Nat → Int32) → (Nat → Nat → Option Nat) → (Nat → Nat → Int64) → Prop} {v : Int32} (hS : ShOK sh) (j : Nat) (e : x = .inr j) (hv : v = Int32.ofInt (-32 - (j : Int))) (hJ : FrX sh I J) (hK : K = u2 J 744 j (J 744 j + nI 1)) : XH I R L sh N x P (some (.int v)) (K, R, L, sh, N) := by
  obtain ⟨K2, R2, h1, h2, h3, h4⟩ := XP.bad (R := R) (P := fun _ _ => True) (L := L) (N := N) hS j e hv FrXR.rf hJ hK
  subst e
  cases h1
  exact ⟨K, R, L, rfl, h2, rfl, rfl, h4⟩
/-- but for shelf s all stays -/
def FH (s : Nat) (I K : Nat → Nat → Int32) (R R' : Nat → Nat → Option Nat) (L L' : Nat → Nat → Int64) : Prop := (∀ a j, a ≠ 745 + 2 * s → K a j = I a j) ∧ ((∀ a j, ¬ (a = 745 + 2 * s ∧ j = 3) → R' a j = R a j) ∧ (RfOK R → RfOK R')) ∧ ∀ a j, a ≠ 746 + 2 * s → L' a j = L a j
theorem rfL_3 : ∀ x ∈ rfL, x.2.1 = 3 → x.1 < 745 ∨ 761 ≤ x.1 := by decide +kernel
theorem RfOK_h {R R' : Nat → Nat → Option Nat} {s : Nat} (hs : s < 8) (h : RfOK R) (e : ∀ a j, ¬ (a = 745 + 2 * s ∧ j = 3) → R' a j = R a j) : RfOK R' := by
  obtain ⟨h1, h2, h3, h4⟩ := h
  refine ⟨fun x hx => ?_, fun d hd F hF => ?_, fun d hd F hF => ?_, fun d hd F hF r hr => ?_⟩
  · rw [e _ _ (fun z => by have := rfL_3 x hx z.2; omega)]; exact h1 x hx
  · rw [e _ _ (fun z => by have := z.1; unfold dk at this; omega)]; exact h2 d hd F hF
  · rw [e _ _ (fun z => by omega), e _ _ (fun z => by omega), e _ _ (fun z => by omega), e _ _ (fun z => by omega), e _ _ (fun z => by omega), e _ _ (fun z => by omega)]; exact h3 d hd F hF
  · have := fe_lt (e := d) hd hF
    rw [e _ _ (fun z => by have := z.1; omega), e _ _ (fun z => by have := z.1; unfold ru at this; omega)]; exact h4 d hd F hF r hr
def flL (L : Nat → Nat → Int64) (A i : Nat) (v : Int64) : Nat → Nat → Int64 := fun a j => if a = A ∧ j < i then v else L a j
theorem flL_0 {L : Nat → Nat → Int64} {A : Nat} {v : Int64} : flL L A 0 v = L := by
  funext a j; unfold flL; rw [if_neg (by omega)]
theorem flL_s {L J : Nat → Nat → Int64} {A i : Nat} {v : Int64} (h : J = u2 (flL L A i v) A i v) : J = flL L A (i + 1) v := by
  funext a j
  by_cases q : a = A
  · subst q
    by_cases r : j = i
    · subst r; rw [rd_eq h]; unfold flL; rw [if_pos ⟨rfl, by omega⟩]
    · rw [rd_nk h r]; unfold flL
      by_cases z : j < i
      · rw [if_pos ⟨rfl, z⟩, if_pos ⟨rfl, by omega⟩]
      · rw [if_neg (by omega), if_neg (by omega)]
  · rw [rd_ne h q]; unfold flL; rw [if_neg (fun z => q z.1), if_neg (fun z => q z.1)]
theorem flL_i {L J : Nat → Nat → Int64} {A n j : Nat} {v : Int64} (h : J = flL L A n v) (hj : j < n) : J A j = v := by rw [h]; unfold flL; rw [if_pos ⟨rfl, hj⟩]
theorem flL_o {L J : Nat → Nat → Int64} {A n a j : Nat} {v : Int64} (h : J = flL L A n v) (ha : a ≠ A) : J a j = L a j := by rw [h]; unfold flL; rw [if_neg (fun z => ha z.1)]
theorem c_Sh_hasRow {d : Nat} {J : Nat → Nat → Int32} {R : Nat → Nat → Option Nat} {L : Nat → Nat → Int64} {sh : Nat → Nat × Nat} {N : Nat} {q : Nat} (hq : sh q = (7, 0)) {x : Int32} (hx : J q 0 = x) : Me mi_Sh_hasRow d 0 0 [.ref q] (J, R, L, sh, N) (some (.int (bI (¬ x.toInt = -1)))) (J, R, L, sh, N) := by
  refine Mt.of pn_Sh (Nat.le_of_ble_eq_true rfl) ?_
  show Run mi_Sh_hasRow d 0 0 0 [(0, .ref q)] [] (J, R, L, sh, N) _
  refine r_aload_n (x := some q) (pc2 := 1) d_Sh_hasRow_0 rfl rfl ?_
  refine q_getI (x := x) (pc2 := 4) d_Sh_hasRow_1 rfl k_Sh_9 (by decide) hq hx ?_
  refine r_iconst (v := (-1 : Int32)) (pc2 := 5) d_Sh_hasRow_4 rfl (by decide) ?_
  refine q_icmp_eq (tgt := 12) (A := x.toInt) (B := (-1 : Int)) (pc2 := 8) d_Sh_hasRow_5 rfl rfl (rfl) (by decide) (fun c1 => ?_) (fun c1 => ?_)
  · refine r_iconst (v := nI 0) (pc2 := 13) d_Sh_hasRow_12 rfl (by decide) ?_
    refine Run.ret (some (.int (nI 0))) d_Sh_hasRow_13 ⟨_, rfl, by decide⟩ ?_
    exact ⟨by rw [bI_f (fun z => z c1)]; rfl, rfl⟩
  · refine r_iconst (v := nI 1) (pc2 := 9) d_Sh_hasRow_8 rfl (by decide) ?_
    refine r_goto (tgt := 13) d_Sh_hasRow_9 rfl ?_
    refine Run.ret (some (.int (nI 1))) d_Sh_hasRow_13 ⟨_, rfl, by decide⟩ ?_
    exact ⟨by rw [bI_t c1]; rfl, rfl⟩
theorem c_Sh_hasConditionN {d : Nat} {J : Nat → Nat → Int32} {R : Nat → Nat → Option Nat} {L : Nat → Nat → Int64} {sh : Nat → Nat × Nat} {N : Nat} {q : Nat} (hq : sh q = (7, 0)) (hx : R q 3 = none) : Me mi_Sh_hasCondition d 0 0 [.ref q] (J, R, L, sh, N) (some (.int (bI False))) (J, R, L, sh, N) := by
  refine Mt.of pn_Sh (Nat.le_of_ble_eq_true rfl) ?_
  show Run mi_Sh_hasCondition d 0 0 0 [(0, .ref q)] [] (J, R, L, sh, N) _
  refine r_aload_n (x := some q) (pc2 := 1) d_Sh_hasCondition_0 rfl rfl ?_
  refine q_getR (x := none) (pc2 := 4) d_Sh_hasCondition_1 rfl k_Sh_22 rfl hq hx ?_
  refine r_ifnull (x := none) (tgt := 11) (pc2 := 7) d_Sh_hasCondition_4 rfl rfl (fun ha1 => ?_) (fun a1 ha1 => ?_)
  · refine r_iconst (v := nI 0) (pc2 := 12) d_Sh_hasCondition_11 rfl (by decide) ?_
    refine Run.ret (some (.int (nI 0))) d_Sh_hasCondition_12 ⟨_, rfl, by decide⟩ ?_
    first | exact ⟨rfl, rfl⟩ | (exfalso; simp_all)
  · refine r_iconst (v := nI 1) (pc2 := 8) d_Sh_hasCondition_7 rfl (by decide) ?_
    refine r_goto (tgt := 12) d_Sh_hasCondition_8 rfl ?_
    refine Run.ret (some (.int (nI 1))) d_Sh_hasCondition_12 ⟨_, rfl, by decide⟩ ?_
    first | exact ⟨rfl, rfl⟩ | (exfalso; simp_all)
theorem c_Sh_hasConditionS {d : Nat} {J : Nat → Nat → Int32} {R : Nat → Nat → Option Nat} {L : Nat → Nat → Int64} {sh : Nat → Nat × Nat} {N : Nat} {q : Nat} (hq : sh q = (7, 0)) {c : Nat} (hx : R q 3 = some c) : Me mi_Sh_hasCondition d 0 0 [.ref q] (J, R, L, sh, N) (some (.int (bI True))) (J, R, L, sh, N) := by
  refine Mt.of pn_Sh (Nat.le_of_ble_eq_true rfl) ?_
  show Run mi_Sh_hasCondition d 0 0 0 [(0, .ref q)] [] (J, R, L, sh, N) _
  refine r_aload_n (x := some q) (pc2 := 1) d_Sh_hasCondition_0 rfl rfl ?_
  refine q_getR (x := some c) (pc2 := 4) d_Sh_hasCondition_1 rfl k_Sh_22 rfl hq hx ?_
  refine r_ifnull (x := some c) (tgt := 11) (pc2 := 7) d_Sh_hasCondition_4 rfl rfl (fun c1 => ?_) (fun _ c1 => ?_)
  · cases c1
  ·
    refine r_iconst (v := nI 1) (pc2 := 8) d_Sh_hasCondition_7 rfl (by decide) ?_
    refine r_goto (tgt := 12) d_Sh_hasCondition_8 rfl ?_
    refine Run.ret (some (.int (nI 1))) d_Sh_hasCondition_12 ⟨_, rfl, by decide⟩ ?_
    first | exact ⟨rfl, rfl⟩ | (exfalso; simp_all)
theorem c_Sh_hasRange {d : Nat} {J : Nat → Nat → Int32} {R : Nat → Nat → Option Nat} {L : Nat → Nat → Int64} {sh : Nat → Nat × Nat} {N : Nat} {q : Nat} (hq : sh q = (7, 0)) {z : Nat} (hz : J q 1 = nI z) (hz40 : z ≤ 40) {i n : Int32} : Me mi_Sh_hasRange d 0 0 [.ref q, .int i, .int n] (J, R, L, sh, N) (some (.int (bI (0 ≤ i.toInt ∧ 0 ≤ n.toInt ∧ i.toInt + n.toInt ≤ (z : Int))))) (J, R, L, sh, N) := by
  refine Mt.of pn_Sh (Nat.le_of_ble_eq_true rfl) ?_
  show Run mi_Sh_hasRange d 0 0 0 [(0, .ref q), (1, .int i), (2, .int n)] [] (J, R, L, sh, N) _
  refine r_iload_n (pc2 := 1) d_Sh_hasRange_0 rfl rfl ?_
  refine q_if_lt (tgt := 30) (A := i.toInt) (pc2 := 4) d_Sh_hasRange_1 rfl rfl (rfl) (fun c1 => ?_) (fun c1 => ?_)
  · refine r_iconst (v := nI 0) (pc2 := 31) d_Sh_hasRange_30 rfl (by decide) ?_
    refine Run.ret (some (.int (nI 0))) d_Sh_hasRange_31 ⟨_, rfl, by decide⟩ ?_
    first | (exfalso; omega) | exact ⟨by rw [bI_f (by omega)]; rfl, rfl⟩
  · refine r_iload_n (pc2 := 5) d_Sh_hasRange_4 rfl rfl ?_
    refine q_if_lt (tgt := 30) (A := n.toInt) (pc2 := 8) d_Sh_hasRange_5 rfl rfl (rfl) (fun c2 => ?_) (fun c2 => ?_)
    · refine r_iconst (v := nI 0) (pc2 := 31) d_Sh_hasRange_30 rfl (by decide) ?_
      refine Run.ret (some (.int (nI 0))) d_Sh_hasRange_31 ⟨_, rfl, by decide⟩ ?_
      first | (exfalso; omega) | exact ⟨by rw [bI_f (by omega)]; rfl, rfl⟩
    · refine r_iload_n (pc2 := 9) d_Sh_hasRange_8 rfl rfl ?_
      refine r_aload_n (x := some q) (pc2 := 10) d_Sh_hasRange_9 rfl rfl ?_
      refine q_getI (x := nI z) (pc2 := 13) d_Sh_hasRange_10 rfl k_Sh_15 (by decide) hq hz ?_
      refine q_icmp_gt (tgt := 30) (A := i.toInt) (B := ((z : Nat) : Int)) (pc2 := 16) d_Sh_hasRange_13 rfl rfl (rfl) (nI_toInt (by omega)) (fun c3 => ?_) (fun c3 => ?_)
      · refine r_iconst (v := nI 0) (pc2 := 31) d_Sh_hasRange_30 rfl (by decide) ?_
        refine Run.ret (some (.int (nI 0))) d_Sh_hasRange_31 ⟨_, rfl, by decide⟩ ?_
        first | (exfalso; omega) | exact ⟨by rw [bI_f (by omega)]; rfl, rfl⟩
      · refine r_iload_n (pc2 := 17) d_Sh_hasRange_16 rfl rfl ?_
        refine r_aload_n (x := some q) (pc2 := 18) d_Sh_hasRange_17 rfl rfl ?_
        refine q_getI (x := nI z) (pc2 := 21) d_Sh_hasRange_18 rfl k_Sh_15 (by decide) hq hz ?_
        refine r_iload_n (pc2 := 22) d_Sh_hasRange_21 rfl rfl ?_
        refine q_isubV (pc2 := 23) d_Sh_hasRange_22 rfl (A := ((z : Nat) : Int)) (B := i.toInt) (nI_toInt (by omega)) (rfl) (by constructor <;> omega) (fun y4 ey4 hy4 => ?_)
        refine q_icmp_gt (tgt := 30) (A := n.toInt) (B := ((z : Nat) : Int) - i.toInt) (pc2 := 26) d_Sh_hasRange_23 rfl rfl (rfl) (hy4) (fun c5 => ?_) (fun c5 => ?_)
        · refine r_iconst (v := nI 0) (pc2 := 31) d_Sh_hasRange_30 rfl (by decide) ?_
          refine Run.ret (some (.int (nI 0))) d_Sh_hasRange_31 ⟨_, rfl, by decide⟩ ?_
          first | (exfalso; omega) | exact ⟨by rw [bI_f (by omega)]; rfl, rfl⟩
        · refine r_iconst (v := nI 1) (pc2 := 27) d_Sh_hasRange_26 rfl (by decide) ?_
          refine r_goto (tgt := 31) d_Sh_hasRange_27 rfl ?_
          refine Run.ret (some (.int (nI 1))) d_Sh_hasRange_31 ⟨_, rfl, by decide⟩ ?_
          first | (exfalso; omega) | exact ⟨by rw [bI_t (by omega)]; rfl, rfl⟩
theorem c_Sh_clear {d : Nat} {J : Nat → Nat → Int32} {R : Nat → Nat → Option Nat} {L : Nat → Nat → Int64} {sh : Nat → Nat × Nat} {N : Nat} {q : Nat} (hq : sh q = (7, 0)) : Mt mi_Sh_clear d 0 0 [.ref q] (J, R, L, sh, N) (fun r h2 => r = none ∧ ∃ K1 K2 K3 R2, h2 = (K3, R2, L, sh, N) ∧ K1 = u2 J q 0 (-1) ∧ K2 = u2 K1 q 1 (nI 0) ∧ K3 = u2 K2 q 4 (-1) ∧ R2 = u2 R q 3 none) := by
  refine Mt.of pn_Sh (Nat.le_of_ble_eq_true rfl) ?_
  show Run mi_Sh_clear d 0 0 0 [(0, .ref q)] [] (J, R, L, sh, N) _
  refine r_aload_n (x := some q) (pc2 := 1) d_Sh_clear_0 rfl rfl ?_
  refine r_iconst (v := (-1 : Int32)) (pc2 := 2) d_Sh_clear_1 rfl (by decide) ?_
  refine q_putI (pc2 := 5) d_Sh_clear_2 rfl k_Sh_9 (Or.inl rfl) hq (Or.inl rfl) (fun I1 hI1 => ?_)
  refine r_aload_n (x := some q) (pc2 := 6) d_Sh_clear_5 rfl rfl ?_
  refine r_iconst (v := nI 0) (pc2 := 7) d_Sh_clear_6 rfl (by decide) ?_
  refine q_putI (pc2 := 10) d_Sh_clear_7 rfl k_Sh_15 (Or.inl rfl) hq (Or.inl rfl) (fun I2 hI2 => ?_)
  refine r_aload_n (x := some q) (pc2 := 11) d_Sh_clear_10 rfl rfl ?_
  refine r_null (pc2 := 12) d_Sh_clear_11 rfl ?_
  refine q_putR (x := none) (pc2 := 15) d_Sh_clear_12 rfl k_Sh_22 rfl hq (Or.inl rfl) (fun R3 hR3 => ?_)
  refine r_aload_n (x := some q) (pc2 := 16) d_Sh_clear_15 rfl rfl ?_
  refine r_iconst (v := (-1 : Int32)) (pc2 := 17) d_Sh_clear_16 rfl (by decide) ?_
  refine q_putI (pc2 := 20) d_Sh_clear_17 rfl k_Sh_26 (Or.inl rfl) hq (Or.inl rfl) (fun I4 hI4 => ?_)
  refine Run.ret none d_Sh_clear_20 rfl ?_
  exact ⟨rfl, _, _, _, _, rfl, hI1, hI2, hI4, hR3⟩
theorem l_JA_fillL {d : Nat} {J : Nat → Nat → Int32} {R : Nat → Nat → Option Nat} {L : Nat → Nat → Int64} {sh : Nat → Nat × Nat} {N : Nat} {A n : Nat} (hA : sh A = (13, n)) (hn : n ≤ 1000000) {v : Int64} {Q : Option Value → HS → Prop} (hq : ∀ K, K = flL L A n v → Q none (J, R, K, sh, N)) : ∀ (n_ : Nat) (i : Nat) (L1 : Nat → Nat → Int64), n - i = n_ → (L1 = flL L A i v) → (i ≤ n) → Run mi_JA_fillL d 0 0 6 [(0, .ref A), (1, .long v), (3, .int (nI i)), (4, .int (nI n))] [] (J, R, L1, sh, N) Q := by
  intro n_
  induction n_ using Nat.strongRecOn with | ind n_ ih_ => ?_
  intro i L1 hn_ v0_ v1_
  refine r_iload_n (pc2 := 7) d_JA_fillL_6 rfl rfl ?_
  refine r_iload (pc2 := 9) d_JA_fillL_7 rfl rfl ?_
  refine q_icmp_ge (tgt := 22) (A := ((i : Nat) : Int)) (B := ((n : Nat) : Int)) (pc2 := 12) d_JA_fillL_9 rfl rfl (nI_toInt (by omega)) (nI_toInt (by omega)) (fun c1 => ?_) (fun c1 => ?_)
  · refine Run.ret none d_JA_fillL_22 rfl ?_
    exact hq _ (by rw [show n = i by omega]; exact v0_)
  · refine r_aload_n (x := some A) (pc2 := 13) d_JA_fillL_12 rfl rfl ?_
    refine r_iload_n (pc2 := 14) d_JA_fillL_13 rfl rfl ?_
    refine r_lload_n (pc2 := 15) d_JA_fillL_14 rfl rfl ?_
    refine q_lastore (q := i) (pc2 := 16) d_JA_fillL_15 rfl hA (nI_toInt (by omega)) (by omega) (fun L2 hL2 => ?_)
    refine q_iinc (b := 1) (pc2 := 19) d_JA_fillL_16 rfl rfl (by decide) (Nat.le_of_ble_eq_true rfl) ?_
    refine r_goto (tgt := 6) d_JA_fillL_19 rfl ?_
    refine Run.sub (l2 := [(0, .ref A), (1, .long v), (3, .int (nI (i + 1))), (4, .int (nI n))]) ⟨rfl, rfl, rfl, rfl, trivial⟩ ?_
    exact ih_ (n - (i + 1)) (by omega) (i + 1) L2 rfl (flL_s (by rw [← v0_]; exact hL2)) (by omega)
theorem c_JA_fillL {d : Nat} {J : Nat → Nat → Int32} {R : Nat → Nat → Option Nat} {L : Nat → Nat → Int64} {sh : Nat → Nat × Nat} {N : Nat} {A n : Nat} (hA : sh A = (13, n)) (hn : n ≤ 1000000) {v : Int64} : Mt mi_JA_fillL d 0 0 [.ref A, .long v] (J, R, L, sh, N) (fun r h2 => r = none ∧ ∃ K, h2 = (J, R, K, sh, N) ∧ K = flL L A n v) := by
  refine Mt.ofF (by decide +kernel) (Nat.le_of_ble_eq_true rfl) ?_
  show Run mi_JA_fillL d 0 0 0 [(0, .ref A), (1, .long v)] [] (J, R, L, sh, N) _
  refine r_iconst (v := nI 0) (pc2 := 1) d_JA_fillL_0 rfl (by decide) ?_
  refine r_istore_n (pc2 := 2) d_JA_fillL_1 rfl rfl (Nat.le_of_ble_eq_true rfl) ?_
  refine r_aload_n (x := some A) (pc2 := 3) d_JA_fillL_2 rfl rfl ?_
  refine r_alen (pc2 := 4) d_JA_fillL_3 rfl hA (by decide) (by decide) ?_
  refine r_istore (pc2 := 6) d_JA_fillL_4 rfl (Nat.le_of_ble_eq_true rfl) ?_
  refine Run.sub (l2 := [(0, .ref A), (1, .long v), (3, .int (nI 0)), (4, .int (nI n))]) ⟨rfl, rfl, rfl, rfl, trivial⟩ ?_
  exact l_JA_fillL hA hn (fun K hK => ⟨rfl, K, rfl, hK⟩) _ 0 _ rfl flL_0.symm (Nat.zero_le _)
theorem c_Sh_takeRow {d : Nat} {J : Nat → Nat → Int32} {R : Nat → Nat → Option Nat} {L : Nat → Nat → Int64} {sh : Nat → Nat × Nat} {N : Nat} {q : Nat} (hq : sh q = (7, 0)) {A : Nat} (hA : sh A = (13, 40)) (hR2r : R q 2 = some A) {k n : Int32} (hd : 3 ≤ d) : Mt mi_Sh_takeRow d 0 0 [.ref q, .int k, .int n] (J, R, L, sh, N) (fun r h2 => r = none ∧ ∃ K1 K2 K3 K4 K5 R2 L2, h2 = (K5, R2, L2, sh, N) ∧ K1 = u2 J q 0 (-1) ∧ K2 = u2 K1 q 1 (nI 0) ∧ K3 = u2 K2 q 4 (-1) ∧ R2 = u2 R q 3 none ∧ K4 = u2 K3 q 0 k ∧ K5 = u2 K4 q 1 n ∧ L2 = flL L A 40 0) := by
  refine Mt.of pn_Sh (Nat.le_of_ble_eq_true rfl) ?_
  show Run mi_Sh_takeRow d 0 0 0 [(0, .ref q), (1, .int k), (2, .int n)] [] (J, R, L, sh, N) _
  refine r_aload_n (x := some q) (pc2 := 1) d_Sh_takeRow_0 rfl rfl ?_
  refine r_callv (M2 := mi_Sh_clear) (pc2 := 4) d_Sh_takeRow_1 rfl k_Sh_35 cm_Sh_clear cv_Sh_clear hq (by decide) rfl rfl rfl (Nat.le_of_ble_eq_true rfl) (c_Sh_clear (J := J) (q := q) hq) (d2 := d - 1) (by omega) (Nat.le_of_eq (Nat.zero_add _)) (Nat.le_of_eq (Nat.zero_add _)) (fun r2 h2 hq2 => ?_)
  obtain ⟨rfl, K1, K2, K3, R2, rfl, hK1, hK2, hK3, hR2⟩ := hq2
  change Run _ _ _ _ _ _ [] _ _
  refine r_aload_n (x := some q) (pc2 := 5) d_Sh_takeRow_4 rfl rfl ?_
  refine r_iload_n (pc2 := 6) d_Sh_takeRow_5 rfl rfl ?_
  refine q_putI (pc2 := 9) d_Sh_takeRow_6 rfl k_Sh_9 (Or.inl rfl) hq (Or.inl rfl) (fun I1 hI1 => ?_)
  refine r_aload_n (x := some q) (pc2 := 10) d_Sh_takeRow_9 rfl rfl ?_
  refine r_iload_n (pc2 := 11) d_Sh_takeRow_10 rfl rfl ?_
  refine q_putI (pc2 := 14) d_Sh_takeRow_11 rfl k_Sh_15 (Or.inl rfl) hq (Or.inl rfl) (fun I2 hI2 => ?_)
  refine r_aload_n (x := some q) (pc2 := 15) d_Sh_takeRow_14 rfl rfl ?_
  refine q_getR (x := some A) (pc2 := 18) d_Sh_takeRow_15 rfl k_Sh_18 rfl hq ((rd_nk hR2 (by decide)).trans (hR2r)) ?_
  refine r_lconst (v := (0 : Int64)) (pc2 := 19) d_Sh_takeRow_18 rfl (by decide) ?_
  refine r_calls (M2 := mi_JA_fillL) (pc2 := 22) d_Sh_takeRow_19 rfl k_Sh_38 cm_JA_fillL cs_JA_fillL rfl rfl (Nat.le_of_ble_eq_true rfl) (c_JA_fillL (J := I2) (R := R2) (A := A) hA (by omega) (v := (0 : Int64))) (d2 := d - 1) (by omega) (Nat.le_of_eq (Nat.zero_add _)) (Nat.le_of_eq (Nat.zero_add _)) (fun r2 h2 hq2 => ?_)
  obtain ⟨rfl, L2, rfl, hL2⟩ := hq2
  change Run _ _ _ _ _ _ [] _ _
  refine Run.ret none d_Sh_takeRow_22 rfl ?_
  exact ⟨rfl, K1, K2, K3, _, _, R2, L2, rfl, hK1, hK2, hK3, hR2, hI1, hI2, hL2⟩
theorem c_Sh_takeCondition {d : Nat} {J : Nat → Nat → Int32} {R : Nat → Nat → Option Nat} {L : Nat → Nat → Int64} {sh : Nat → Nat × Nat} {N : Nat} {q : Nat} (hq : sh q = (7, 0)) {c n : Nat} (hd : 3 ≤ d) : Mt mi_Sh_takeCondition d 0 0 [.ref q, .ref c, .int (nI n)] (J, R, L, sh, N) (fun r h2 => r = none ∧ ∃ K1 K2 K3 K4 R2 R3, h2 = (K4, R3, L, sh, N) ∧ K1 = u2 J q 0 (-1) ∧ K2 = u2 K1 q 1 (nI 0) ∧ K3 = u2 K2 q 4 (-1) ∧ R2 = u2 R q 3 none ∧ R3 = u2 R2 q 3 (some c) ∧ K4 = u2 K3 q 4 (nI n)) := by
  refine Mt.of pn_Sh (Nat.le_of_ble_eq_true rfl) ?_
  show Run mi_Sh_takeCondition d 0 0 0 [(0, .ref q), (1, .ref c), (2, .int (nI n))] [] (J, R, L, sh, N) _
  refine r_aload_n (x := some q) (pc2 := 1) d_Sh_takeCondition_0 rfl rfl ?_
  refine r_callv (M2 := mi_Sh_clear) (pc2 := 4) d_Sh_takeCondition_1 rfl k_Sh_35 cm_Sh_clear cv_Sh_clear hq (by decide) rfl rfl rfl (Nat.le_of_ble_eq_true rfl) (c_Sh_clear (J := J) (q := q) hq) (d2 := d - 1) (by omega) (Nat.le_of_eq (Nat.zero_add _)) (Nat.le_of_eq (Nat.zero_add _)) (fun r2 h2 hq2 => ?_)
  obtain ⟨rfl, K1, K2, K3, R2, rfl, hK1, hK2, hK3, hR2⟩ := hq2
  change Run _ _ _ _ _ _ [] _ _
  refine r_aload_n (x := some q) (pc2 := 5) d_Sh_takeCondition_4 rfl rfl ?_
  refine r_aload_n (x := some c) (pc2 := 6) d_Sh_takeCondition_5 rfl rfl ?_
  refine q_putR (x := some c) (pc2 := 9) d_Sh_takeCondition_6 rfl k_Sh_22 rfl hq (Or.inl rfl) (fun R1 hR1 => ?_)
  refine r_aload_n (x := some q) (pc2 := 10) d_Sh_takeCondition_9 rfl rfl ?_
  refine r_iload_n (pc2 := 11) d_Sh_takeCondition_10 rfl rfl ?_
  refine q_putI (pc2 := 14) d_Sh_takeCondition_11 rfl k_Sh_26 (Or.inl rfl) hq (Or.inl rfl) (fun I2 hI2 => ?_)
  refine Run.ret none d_Sh_takeCondition_14 rfl ?_
  exact ⟨rfl, K1, K2, K3, _, R2, _, rfl, hK1, hK2, hK3, hR2, hR1, hI2⟩
theorem c_Sh_put {d : Nat} {J : Nat → Nat → Int32} {R : Nat → Nat → Option Nat} {L : Nat → Nat → Int64} {sh : Nat → Nat × Nat} {N : Nat} {q : Nat} (hq : sh q = (7, 0)) {A : Nat} (hA : sh A = (13, 40)) (hR2r : R q 2 = some A) {k : Int32} (hk : J q 0 = k) (hk4 : 0 ≤ k.toInt ∧ k.toInt ≤ 4) {i : Nat} (hi : i < 40) {v : Int64} : Mt mi_Sh_put d 0 0 [.ref q, .int (nI i), .long v] (J, R, L, sh, N) (fun r h2 => r = none ∧ ∃ L2, h2 = (J, R, L2, sh, N) ∧ L2 = u2 L A i (lowL k v)) := by
  refine Mt.of pn_Sh (Nat.le_of_ble_eq_true rfl) ?_
  show Run mi_Sh_put d 0 0 0 [(0, .ref q), (1, .int (nI i)), (2, .long v)] [] (J, R, L, sh, N) _
  refine r_aload_n (x := some q) (pc2 := 1) d_Sh_put_0 rfl rfl ?_
  refine q_getI (x := k) (pc2 := 4) d_Sh_put_1 rfl k_Sh_9 (by decide) hq hk ?_
  refine q_switch (tgt := 84) (A := k.toInt) d_Sh_put_4 rfl (rfl) (fun off t2 c1a c1b c1o c1t => ?_) (by decide) (by decide) (fun c1 => ?_)
  · have c1c : k.toInt = 0 ∨ k.toInt = 1 ∨ k.toInt = 2 ∨ k.toInt = 3 := by omega
    rcases c1c with c1e | c1e | c1e | c1e
    · obtain rfl : t2 = 36 := by
        have hh : (some (32 : Int)) = some off := by rw [c1e] at c1o; exact c1o
        cases hh; omega
      refine r_aload_n (x := some q) (pc2 := 37) d_Sh_put_36 rfl rfl ?_
      refine q_getR (x := some A) (pc2 := 40) d_Sh_put_37 rfl k_Sh_18 rfl hq hR2r ?_
      refine r_iload_n (pc2 := 41) d_Sh_put_40 rfl rfl ?_
      refine r_lload_n (pc2 := 42) d_Sh_put_41 rfl rfl ?_
      refine r_l2i (pc2 := 43) d_Sh_put_42 rfl ?_
      refine r_i2b (pc2 := 44) d_Sh_put_43 rfl ?_
      refine r_i2l (pc2 := 45) d_Sh_put_44 rfl ?_
      refine q_lastore (q := i) (pc2 := 46) d_Sh_put_45 rfl hA (nI_toInt (by omega)) (by omega) (fun L2 hL2 => ?_)
      refine r_goto (tgt := 101) d_Sh_put_46 rfl ?_
      refine Run.ret none d_Sh_put_101 rfl ?_
      refine ⟨rfl, _, rfl, ?_⟩
      rw [hL2]; congr 1; unfold lowL; (repeat (first | rw [if_pos (by omega)] | rw [if_neg (by omega)]))
    · obtain rfl : t2 = 49 := by
        have hh : (some (45 : Int)) = some off := by rw [c1e] at c1o; exact c1o
        cases hh; omega
      refine r_aload_n (x := some q) (pc2 := 50) d_Sh_put_49 rfl rfl ?_
      refine q_getR (x := some A) (pc2 := 53) d_Sh_put_50 rfl k_Sh_18 rfl hq hR2r ?_
      refine r_iload_n (pc2 := 54) d_Sh_put_53 rfl rfl ?_
      refine r_lload_n (pc2 := 55) d_Sh_put_54 rfl rfl ?_
      refine r_l2i (pc2 := 56) d_Sh_put_55 rfl ?_
      refine r_i2s (pc2 := 57) d_Sh_put_56 rfl ?_
      refine r_i2l (pc2 := 58) d_Sh_put_57 rfl ?_
      refine q_lastore (q := i) (pc2 := 59) d_Sh_put_58 rfl hA (nI_toInt (by omega)) (by omega) (fun L3 hL3 => ?_)
      refine r_goto (tgt := 101) d_Sh_put_59 rfl ?_
      refine Run.ret none d_Sh_put_101 rfl ?_
      refine ⟨rfl, _, rfl, ?_⟩
      rw [hL3]; congr 1; unfold lowL; (repeat (first | rw [if_pos (by omega)] | rw [if_neg (by omega)]))
    · obtain rfl : t2 = 62 := by
        have hh : (some (58 : Int)) = some off := by rw [c1e] at c1o; exact c1o
        cases hh; omega
      refine r_aload_n (x := some q) (pc2 := 63) d_Sh_put_62 rfl rfl ?_
      refine q_getR (x := some A) (pc2 := 66) d_Sh_put_63 rfl k_Sh_18 rfl hq hR2r ?_
      refine r_iload_n (pc2 := 67) d_Sh_put_66 rfl rfl ?_
      refine r_lload_n (pc2 := 68) d_Sh_put_67 rfl rfl ?_
      refine r_l2i (pc2 := 69) d_Sh_put_68 rfl ?_
      refine r_i2l (pc2 := 70) d_Sh_put_69 rfl ?_
      refine q_lastore (q := i) (pc2 := 71) d_Sh_put_70 rfl hA (nI_toInt (by omega)) (by omega) (fun L4 hL4 => ?_)
      refine r_goto (tgt := 101) d_Sh_put_71 rfl ?_
      refine Run.ret none d_Sh_put_101 rfl ?_
      refine ⟨rfl, _, rfl, ?_⟩
      rw [hL4]; congr 1; unfold lowL; (repeat (first | rw [if_pos (by omega)] | rw [if_neg (by omega)]))
    · obtain rfl : t2 = 74 := by
        have hh : (some (70 : Int)) = some off := by rw [c1e] at c1o; exact c1o
        cases hh; omega
      refine r_aload_n (x := some q) (pc2 := 75) d_Sh_put_74 rfl rfl ?_
      refine q_getR (x := some A) (pc2 := 78) d_Sh_put_75 rfl k_Sh_18 rfl hq hR2r ?_
      refine r_iload_n (pc2 := 79) d_Sh_put_78 rfl rfl ?_
      refine r_lload_n (pc2 := 80) d_Sh_put_79 rfl rfl ?_
      refine q_lastore (q := i) (pc2 := 81) d_Sh_put_80 rfl hA (nI_toInt (by omega)) (by omega) (fun L5 hL5 => ?_)
      refine r_goto (tgt := 101) d_Sh_put_81 rfl ?_
      refine Run.ret none d_Sh_put_101 rfl ?_
      refine ⟨rfl, _, rfl, ?_⟩
      rw [hL5]; congr 1; unfold lowL; (repeat (first | rw [if_pos (by omega)] | rw [if_neg (by omega)]))
  · refine r_aload_n (x := some q) (pc2 := 85) d_Sh_put_84 rfl rfl ?_
    refine q_getR (x := some A) (pc2 := 88) d_Sh_put_85 rfl k_Sh_18 rfl hq hR2r ?_
    refine r_iload_n (pc2 := 89) d_Sh_put_88 rfl rfl ?_
    refine r_lload_n (pc2 := 90) d_Sh_put_89 rfl rfl ?_
    refine r_lconst (v := (0 : Int64)) (pc2 := 91) d_Sh_put_90 rfl (by decide) ?_
    refine r_lcmp (pc2 := 92) d_Sh_put_91 rfl ?_
    refine q_lif_ne (tgt := 99) (A := v.toInt) (B := (0 : Int)) (pc2 := 95) d_Sh_put_92 rfl rfl (rfl) (by decide) (fun c6 => ?_) (fun c6 => ?_)
    · refine r_lconst (v := (1 : Int64)) (pc2 := 100) d_Sh_put_99 rfl (by decide) ?_
      refine q_lastore (q := i) (pc2 := 101) d_Sh_put_100 rfl hA (nI_toInt (by omega)) (by omega) (fun L7 hL7 => ?_)
      refine Run.ret none d_Sh_put_101 rfl ?_
      refine ⟨rfl, _, rfl, ?_⟩
      rw [hL7]; congr 1; unfold lowL; (repeat (first | rw [if_pos (by omega)] | rw [if_neg (by omega)]))
    · refine r_lconst (v := (0 : Int64)) (pc2 := 96) d_Sh_put_95 rfl (by decide) ?_
      refine r_goto (tgt := 100) d_Sh_put_96 rfl ?_
      refine q_lastore (q := i) (pc2 := 101) d_Sh_put_100 rfl hA (nI_toInt (by omega)) (by omega) (fun L8 hL8 => ?_)
      refine Run.ret none d_Sh_put_101 rfl ?_
      refine ⟨rfl, _, rfl, ?_⟩
      rw [hL8]; congr 1; unfold lowL; (repeat (first | rw [if_pos (by omega)] | rw [if_neg (by omega)]))
