/-! THE CLASS: rules are shifted -/
theorem c_JM_min {d : Nat} {J : Nat → Nat → Int32} {R : Nat → Nat → Option Nat} {L : Nat → Nat → Int64} {sh : Nat → Nat × Nat} {N : Nat}  {A B : Nat} (hA : A ≤ 1000000) (hB : B ≤ 1000000) : Me mi_JM_min d 0 0 [.int (nI A), .int (nI B)] (J, R, L, sh, N) (some (.int (nI (min A B)))) (J, R, L, sh, N) := by
  refine Mt.ofF (by decide +kernel) (Nat.le_of_ble_eq_true rfl) ?_
  show Run mi_JM_min d 0 0 0 [(0, .int (nI A)), (1, .int (nI B))] [] (J, R, L, sh, N) _
  refine r_iload_n (pc2 := 1) d_JM_min_0 rfl rfl ?_
  refine r_iload_n (pc2 := 2) d_JM_min_1 rfl rfl ?_
  refine q_icmp_gt (tgt := 9) (A := ((A : Nat) : Int)) (B := ((B : Nat) : Int)) (pc2 := 5) d_JM_min_2 rfl rfl (nI_toInt (by omega)) (nI_toInt (by omega)) (fun c1 => ?_) (fun c1 => ?_)
  · refine r_iload_n (pc2 := 10) d_JM_min_9 rfl rfl ?_
    refine Run.ret (some (.int (nI B))) d_JM_min_10 ⟨_, rfl⟩ ?_
    exact ⟨by rw [show min A B = B by omega], rfl⟩
  · refine r_iload_n (pc2 := 6) d_JM_min_5 rfl rfl ?_
    refine r_goto (tgt := 10) d_JM_min_6 rfl ?_
    refine Run.ret (some (.int (nI A))) d_JM_min_10 ⟨_, rfl⟩ ?_
    exact ⟨by rw [show min A B = A by omega], rfl⟩
theorem c_JM_max {d : Nat} {J : Nat → Nat → Int32} {R : Nat → Nat → Option Nat} {L : Nat → Nat → Int64} {sh : Nat → Nat × Nat} {N : Nat}  {A B : Nat} (hA : A ≤ 1000000) (hB : B ≤ 1000000) : Me mi_JM_max d 0 0 [.int (nI A), .int (nI B)] (J, R, L, sh, N) (some (.int (nI (max A B)))) (J, R, L, sh, N) := by
  refine Mt.ofF (by decide +kernel) (Nat.le_of_ble_eq_true rfl) ?_
  show Run mi_JM_max d 0 0 0 [(0, .int (nI A)), (1, .int (nI B))] [] (J, R, L, sh, N) _
  refine r_iload_n (pc2 := 1) d_JM_max_0 rfl rfl ?_
  refine r_iload_n (pc2 := 2) d_JM_max_1 rfl rfl ?_
  refine q_icmp_lt (tgt := 9) (A := ((A : Nat) : Int)) (B := ((B : Nat) : Int)) (pc2 := 5) d_JM_max_2 rfl rfl (nI_toInt (by omega)) (nI_toInt (by omega)) (fun c1 => ?_) (fun c1 => ?_)
  · refine r_iload_n (pc2 := 10) d_JM_max_9 rfl rfl ?_
    refine Run.ret (some (.int (nI B))) d_JM_max_10 ⟨_, rfl⟩ ?_
    exact ⟨by rw [show max A B = B by omega], rfl⟩
  · refine r_iload_n (pc2 := 6) d_JM_max_5 rfl rfl ?_
    refine r_goto (tgt := 10) d_JM_max_6 rfl ?_
    refine Run.ret (some (.int (nI A))) d_JM_max_10 ⟨_, rfl⟩ ?_
    exact ⟨by rw [show max A B = A by omega], rfl⟩
theorem cpy_o {I K : Nat → Nat → Int32} {a0 SP A DP n a j : Nat} (h : K = cpyI I a0 SP A DP n) (ha : a ≠ A) : K a j = I a j := by rw [h]; unfold cpyI; rw [if_neg (fun z => ha z.1)]
theorem cpy_i {I K : Nat → Nat → Int32} {a0 A n j : Nat} (h : K = cpyI I a0 0 A 0 n) (hj : j < n) : K A j = I a0 j := by rw [h]; unfold cpyI; rw [if_pos ⟨rfl, by omega, by omega⟩]; congr 1; omega
/-- rules from r on have been told of the next -/
def RSh (F r i : Nat) (I J : Nat → Nat → Int32) (R R1 : Nat → Nat → Option Nat) : Prop := (∀ s, r ≤ s → s < i → J (ru 0 F s) 1 = I (ru 0 F (s + 1)) 1 ∧ R1 (ru 0 F s) 0 = R (ru 0 F (s + 1)) 0 ∧ ∀ k, k < 3 → J (ru 0 F s + 1) k = I (ru 0 F (s + 1) + 1) k) ∧ (∀ a j, (∀ s, r ≤ s → s < i → a ≠ ru 0 F s ∧ a ≠ ru 0 F s + 1) → J a j = I a j) ∧ ∀ a j, (∀ s, r ≤ s → s < i → ¬ (a = ru 0 F s ∧ j = 0)) → R1 a j = R a j
theorem RSh.rf {F r : Nat} {I : Nat → Nat → Int32} {R : Nat → Nat → Option Nat} : RSh F r r I I R R := ⟨fun s a b => by omega, fun _ _ _ => rfl, fun _ _ _ => rfl⟩
theorem RSh.s {F r i : Nat} {I J K1 K2 : Nat → Nat → Int32} {R R1 R2 : Nat → Nat → Option Nat} (hri : r ≤ i) (h : RSh F r i I J R R1) {c : Option Nat} {f : Int32} (hc : c = R1 (ru 0 F (i + 1)) 0) (hf : f = J (ru 0 F (i + 1)) 1) (e1 : R2 = u2 R1 (ru 0 F i) 0 c) (e2 : K1 = u2 J (ru 0 F i) 1 f) (e3 : K2 = cpyI K1 (ru 0 F (i + 1) + 1) 0 (ru 0 F i + 1) 0 3) : RSh F r (i + 1) I K2 R R2 := by
  obtain ⟨h1, h2, h3⟩ := h
  have n1 : ∀ s t, s ≠ t → ru 0 F s ≠ ru 0 F t ∧ ru 0 F s ≠ ru 0 F t + 1 ∧ ru 0 F s + 1 ≠ ru 0 F t ∧ ru 0 F s + 1 ≠ ru 0 F t + 1 := fun s t h => by unfold ru; omega
  refine ⟨fun s a b => ?_, fun a j q => ?_, fun a j q => ?_⟩
  · by_cases z : s = i
    · subst z
      have m := n1 s (s + 1) (by omega)
      refine ⟨?_, ?_, fun k hk => ?_⟩
      · rw [cpy_o e3 (by omega), rd_eq e2, hf]
        exact h2 _ _ (fun t t1 t2 => by have := n1 (s + 1) t (by omega); omega)
      · rw [rd_eq e1, hc]
        exact h3 _ _ (fun t t1 t2 => by have := n1 (s + 1) t (by omega); omega)
      · rw [cpy_i e3 hk, rd_ne e2 (by omega)]
        exact h2 _ _ (fun t t1 t2 => by have := n1 (s + 1) t (by omega); omega)
    · have m := n1 s i z
      obtain ⟨x1, x2, x3⟩ := h1 s a (by omega)
      refine ⟨?_, ?_, fun k hk => ?_⟩
      · rw [cpy_o e3 (by omega), rd_ne e2 (by omega)]; exact x1
      · rw [rd_ne e1 (by omega)]; exact x2
      · rw [cpy_o e3 (by omega), rd_ne e2 (by omega)]; exact x3 k hk
  · have m := q i hri (by omega)
    rw [cpy_o e3 m.2, rd_ne e2 m.1]
    exact h2 a j (fun s s1 s2 => q s s1 (by omega))
  · have m := q i hri (by omega)
    rw [show R2 a j = R1 a j from by
      by_cases y : a = ru 0 F i
      · exact y ▸ rd_nk e1 (fun w => m ⟨y, w⟩)
      · exact rd_ne e1 y]
    exact h3 a j (fun s s1 s2 => q s s1 (by omega))
theorem rfL_x : ∀ x ∈ rfL, x.1 = 0 ∨ 718 ≤ x.1 ∨ (x.1 - 1) % 239 < 11 := by decide +kernel
/-- the fixed references stay where rules are given other conditions alone -/
theorem RfOK_ru {R R1 : Nat → Nat → Option Nat} (h : RfOK R) (e : ∀ a j, (∀ d F r, d < 3 → F < 12 → r < 6 → ¬ (a = ru d F r ∧ j = 0)) → R1 a j = R a j) : RfOK R1 := by
  obtain ⟨h1, h2, h3, h4⟩ := h
  refine ⟨fun x hx => ?_, fun d hd F hF => ?_, fun d hd F hF => ?_, fun d hd F hF r hr => ?_⟩
  · rw [e _ _ (fun d F r a b c z => ?_)]; exact h1 x hx
    have := rfL_x x hx
    have z1 := z.1
    unfold ru fe at z1
    have e : (x.1 - 1) % 239 = 18 + 19 * F + 2 * r := by rw [show x.1 - 1 = 18 + 19 * F + 2 * r + 239 * d by omega, Nat.add_mul_mod_self_left, Nat.mod_eq_of_lt (by omega)]
    omega
  · rw [e _ _ (fun d2 F2 r a b c z => ?_)]; exact h2 d hd F hF
    have z1 := z.1
    unfold ru fe dk at z1
    omega
  · rw [e _ _ (fun d2 F2 r a b c z => by omega), e _ _ (fun d2 F2 r a b c z => by omega), e _ _ (fun d2 F2 r a b c z => by omega), e _ _ (fun d2 F2 r a b c z => by omega), e _ _ (fun d2 F2 r a b c z => by omega), e _ _ (fun d2 F2 r a b c z => by omega)]; exact h3 d hd F hF
  · rw [e _ _ (fun d2 F2 r2 a b c z => ?_), e _ _ (fun d2 F2 r2 a b c z => by omega)]; exact h4 d hd F hF r hr
    have z1 := z.1
    unfold ru fe at z1
    rcases (show d = 0 ∨ d = 1 ∨ d = 2 by omega) with y | y | y <;> subst y <;> rcases (show d2 = 0 ∨ d2 = 1 ∨ d2 = 2 by omega) with x | x | x <;> subst x <;> omega
