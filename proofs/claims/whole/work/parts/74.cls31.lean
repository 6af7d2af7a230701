/-! THE CLASS: a feature becomes another one -/
/-! a desk becomes another one -/
/-- of a feature of desk t the cells of P are those of desk s -/
def CPF (P : Nat → Nat → Prop) (s t F : Nat) (I K : Nat → Nat → Int32) : Prop := (∀ c j, c < 19 → P c j → K (fe t F + c) j = I (fe s F + c) j) ∧ ∀ a j, ¬ (fe t F ≤ a ∧ a < fe t F + 19) → K a j = I a j
theorem CPF.rf {s t F : Nat} {I : Nat → Nat → Int32} : CPF (fun _ _ => False) s t F I I := ⟨fun _ _ _ h => h.elim, fun _ _ _ => rfl⟩
theorem CPF.imp {P P' : Nat → Nat → Prop} {s t F : Nat} {I K : Nat → Nat → Int32} (h : CPF P s t F I K) (hp : ∀ c j, c < 19 → P' c j → P c j) : CPF P' s t F I K := ⟨fun c j hc q => h.1 c j hc (hp c j hc q), h.2⟩
theorem CPF.u {P : Nat → Nat → Prop} {s t F : Nat} {I J K : Nat → Nat → Int32} (h : CPF P s t F I J) (c k : Nat) {v : Int32} (hc : c < 19) (hv : v = I (fe s F + c) k) (e : K = u2 J (fe t F + c) k v) : CPF (fun c' j' => P c' j' ∨ (c' = c ∧ j' = k)) s t F I K := by
  refine ⟨fun c' j' h1 h2 => ?_, fun a j q => ?_⟩
  · by_cases z : c' = c ∧ j' = k
    · rw [z.1, z.2, rd_eq e, hv]
    · have hP := h2.resolve_right z
      rw [show K (fe t F + c') j' = J (fe t F + c') j' from by
        by_cases y : c' = c
        · subst y; exact rd_nk e (fun x => z ⟨rfl, x⟩)
        · exact rd_ne e (by omega)]
      exact h.1 c' j' h1 hP
  · rw [rd_ne e (by omega)]; exact h.2 a j q
theorem CPF.c {P : Nat → Nat → Prop} {s t F : Nat} {I J K : Nat → Nat → Int32} (hst : s ≠ t) (hs : s < 3) (ht : t < 3) (hF : F < 12) (h : CPF P s t F I J) (c n : Nat) (hc : c < 19) (e : K = cpyI J (fe s F + c) 0 (fe t F + c) 0 n) : CPF (fun c' j' => P c' j' ∨ (c' = c ∧ j' < n)) s t F I K := by
  refine ⟨fun c' j' h1 h2 => ?_, fun a j q => ?_⟩
  · by_cases z : c' = c ∧ j' < n
    · rw [z.1, cpy_i e z.2]
      exact h.2 _ _ (by unfold fe; omega)
    · have hP := h2.resolve_right z
      rw [show K (fe t F + c') j' = J (fe t F + c') j' from by
        by_cases y : c' = c
        · subst y
          rw [e]; unfold cpyI; rw [if_neg (fun x => z ⟨rfl, by omega⟩)]
        · exact cpy_o e (by omega)]
      exact h.1 c' j' h1 hP
  · rw [cpy_o e (by omega)]; exact h.2 a j q
/-- what of a feature is told of another one, i rules through -/
def PBr (i : Nat) (c j : Nat) : Prop := (c = 0 ∧ j < 4) ∨ (7 ≤ c ∧ c < 7 + 2 * i ∧ ((c % 2 = 1 ∧ j = 1) ∨ (c % 2 = 0 ∧ j < 3)))
def PBF (c j : Nat) : Prop := (c = 0 ∧ (j < 4 ∨ j = 5 ∨ j = 8 ∨ j = 12 ∨ j = 13 ∨ j = 14)) ∨ (2 ≤ c ∧ c < 4 ∧ j < 3) ∨ (4 ≤ c ∧ c < 6 ∧ j < 24) ∨ (c = 6 ∧ j < 4) ∨ (7 ≤ c ∧ ((c % 2 = 1 ∧ j = 1) ∨ (c % 2 = 0 ∧ j < 3)))
/-- the conditions of a feature's rules, i through; no other reference changes -/
def BRF (i s t F : Nat) (R R' : Nat → Nat → Option Nat) : Prop := (∀ r, r < i → R' (ru t F r) 0 = R (ru s F r) 0) ∧ ∀ a j, (∀ r, r < 6 → ¬ (a = ru t F r ∧ j = 0)) → R' a j = R a j
theorem BRF.rf {s t F : Nat} {R : Nat → Nat → Option Nat} : BRF 0 s t F R R := ⟨fun _ h => by omega, fun _ _ _ => rfl⟩
theorem BRF.s {i s t F : Nat} {R R1 R2 : Nat → Nat → Option Nat} {x : Option Nat} (hst : s ≠ t) (hs : s < 3) (ht : t < 3) (hF : F < 12) (hi : i < 6) (h : BRF i s t F R R1) (hx : x = R1 (ru s F i) 0) (e : R2 = u2 R1 (ru t F i) 0 x) : BRF (i + 1) s t F R R2 := by
  refine ⟨fun r hr => ?_, fun a j q => ?_⟩
  · by_cases z : r = i
    · subst z
      rw [rd_eq e, hx]; exact h.2 _ _ (fun r hr z => by have := z.1; unfold ru fe at this; omega)
    · rw [rd_ne e (by unfold ru; omega)]; exact h.1 r (by omega)
  · have q1 := q i hi
    rw [show R2 a j = R1 a j from by
      by_cases y : a = ru t F i
      · exact y ▸ rd_nk e (fun w => q1 ⟨y, w⟩)
      · exact rd_ne e y]
    exact h.2 a j q
theorem BRF.ok {i s t F : Nat} {R R' : Nat → Nat → Option Nat} (h : BRF i s t F R R') (ht : t < 3) (hF : F < 12) (hR : RfOK R) : RfOK R' := RfOK_ru hR (fun a j q => h.2 a j (fun r hr z => q t F r ht hF hr z))
theorem CPF.rule {i s t F : Nat} {I J K1 K2 : Nat → Nat → Int32} {f : Int32} (hst : s ≠ t) (hs : s < 3) (ht : t < 3) (hF : F < 12) (hi : i < 6) (h : CPF (PBr i) s t F I J) (hf : f = I (ru s F i) 1) (e1 : K1 = u2 J (ru t F i) 1 f) (e2 : K2 = cpyI K1 (ru s F i + 1) 0 (ru t F i + 1) 0 3) : CPF (PBr (i + 1)) s t F I K2 :=
  CPF.imp ((h.u (7 + 2 * i) 1 (by omega) hf e1).c hst hs ht hF (8 + 2 * i) 3 (by omega) (by rw [show fe s F + (8 + 2 * i) = ru s F i + 1 by unfold ru; omega, show fe t F + (8 + 2 * i) = ru t F i + 1 by unfold ru; omega]; exact e2)) (fun c j hc q => by
    rcases q with q | ⟨q1, q2, q3⟩
    · exact Or.inl (Or.inl (Or.inl q))
    · by_cases z : c < 7 + 2 * i
      · exact Or.inl (Or.inl (Or.inr ⟨q1, z, q3⟩))
      · rcases q3 with q3 | q3
        · exact Or.inl (Or.inr (by omega))
        · exact Or.inr (by omega))
theorem CPF.src {P : Nat → Nat → Prop} {s t F : Nat} {I J : Nat → Nat → Int32} (hst : s ≠ t) (hs : s < 3) (ht : t < 3) (hF : F < 12) (h : CPF P s t F I J) {c j : Nat} (hc : c < 19) : J (fe s F + c) j = I (fe s F + c) j := h.2 _ _ (by unfold fe; omega)
/-- a feature's picture goes along -/
theorem FR.bec {K F C S : Nat → Int32} {I J : Nat → Nat → Int32} {R R' : Nat → Nat → Option Nat} {sh : Nat → Nat × Nat} {nt s t nP nF E : Nat} {G : Nat → Int32} (hw : WFF G nF nt E) (h : FR K F C S I R sh nt s G nP E) (hJ : ∀ a j, 781 ≤ a → (sh a).1 ≠ 14 → J a j = I a j) (hR : ∀ a j, 781 ≤ a → R' a j = R a j) (h1 : ∀ c j, c < 19 → PBF c j → J (fe t E + c) j = I (fe s E + c) j) (h2 : ∀ r, r < 6 → R' (ru t E r) 0 = R (ru s E r) 0) : FR K F C S J R' sh nt t G nP E := by
  obtain ⟨tp, kl, sk, fb, nR, nN, nO, fr, to, -, -, -, -, ⟨-, b4, c4, -⟩, ⟨-, b5, c5, -⟩, -⟩ := wfn hw
  obtain ⟨⟨x0, x1, x2, x3, x4, x5, x6, x7, x8⟩, y2, y3, y4, y5, y6⟩ := h
  have g0 : ∀ j, PBF 0 j → J (fe t E) j = I (fe s E) j := fun j hj => h1 0 j (by omega) hj
  have hr6 : nRof G E ≤ 6 := by unfold nRof; rw [b4, Int.toNat_natCast]; exact c4
  have hn3 : nNof G E ≤ 3 := by unfold nNof; rw [b5, Int.toNat_natCast]; exact c5
  refine ⟨⟨by rw [g0 0 (by unfold PBF; omega)]; exact x0, by rw [g0 1 (by unfold PBF; omega)]; exact x1, by rw [g0 2 (by unfold PBF; omega)]; exact x2, by rw [g0 3 (by unfold PBF; omega)]; exact x3, by rw [g0 5 (by unfold PBF; omega)]; exact x4, by rw [g0 8 (by unfold PBF; omega)]; exact x5, by rw [g0 12 (by unfold PBF; omega)]; exact x6, by rw [g0 13 (by unfold PBF; omega)]; exact x7, by rw [g0 14 (by unfold PBF; omega)]; exact x8⟩, fun n hn => ?_, fun p hp => ?_, fun p hp => ?_, fun v hv => ?_, fun r hr => ?_⟩
  · rw [h1 2 n (by omega) (by unfold PBF; omega), h1 3 n (by omega) (by unfold PBF; omega)]; exact y2 n hn
  · rw [h1 4 p (by omega) (by unfold PBF; omega)]; exact y3 p hp
  · rw [h1 5 p (by omega) (by unfold PBF; omega)]; exact y4 p hp
  · rw [h1 6 v (by omega) (by unfold PBF; omega)]; exact y5 v hv
  · obtain ⟨a1, a2, c, m, b, a3, a4, a5⟩ := y6 r hr
    have j1 : J (ru t E r) 1 = I (ru s E r) 1 := h1 (7 + 2 * r) 1 (by omega) (by unfold PBF; omega)
    have j2 : ∀ k, k < 3 → J (ru t E r + 1) k = I (ru s E r + 1) k := fun k hk => by have := h1 (8 + 2 * r) k (by omega) (by unfold PBF; omega); rwa [show fe t E + (8 + 2 * r) = ru t E r + 1 by unfold ru; omega, show fe s E + (8 + 2 * r) = ru s E r + 1 by unfold ru; omega] at this
    exact ⟨by rw [j1]; exact a1, by rw [j1, j2 0 (by decide), j2 1 (by decide), j2 2 (by decide)]; exact a2, c, m, b, by rw [h2 r (by omega)]; exact a3, a4.fr hJ hR, a5⟩
theorem FZ.bec {I J : Nat → Nat → Int32} {s t E : Nat} (h : FZ I s E) (h1 : ∀ c j, c < 19 → PBF c j → J (fe t E + c) j = I (fe s E + c) j) : FZ J t E := by
  obtain ⟨x1, x2, x3⟩ := h
  have g0 : ∀ j, PBF 0 j → J (fe t E) j = I (fe s E) j := fun j hj => h1 0 j (by omega) hj
  exact ⟨by rw [g0 1 (by unfold PBF; omega), g0 2 (by unfold PBF; omega), g0 3 (by unfold PBF; omega), g0 5 (by unfold PBF; omega), g0 8 (by unfold PBF; omega), g0 12 (by unfold PBF; omega), g0 13 (by unfold PBF; omega), g0 14 (by unfold PBF; omega)]; exact x1, fun p hp => by rw [h1 4 p (by omega) (by unfold PBF; omega), h1 5 p (by omega) (by unfold PBF; omega)]; exact x2 p hp, fun v hv => by rw [h1 6 v (by omega) (by unfold PBF; omega)]; exact x3 v hv⟩
theorem DR.bec {K F C S : Nat → Int32} {I J : Nat → Nat → Int32} {R R' : Nat → Nat → Option Nat} {sh : Nat → Nat × Nat} {nt s t nP nF nS : Nat} {G : Nat → Int32} (hW : WFA G nP nF nt) (h : DR K F C S I R sh nt s G nP nF nS) (hJ : ∀ a j, 781 ≤ a → (sh a).1 ≠ 14 → J a j = I a j) (hR : ∀ a j, 781 ≤ a → R' a j = R a j) (n1 : J (dk t + 1) 2 = I (dk s + 1) 2) (n2 : J (dk t) 2 = I (dk s) 2) (n3 : J (dk t) 4 = I (dk s) 4) (n4 : J (dk t) 5 = I (dk s) 5) (n5 : J (dk t) 6 = I (dk s) 6) (n6 : J (dk t + 5) 5 = I (dk s + 5) 5)
    (hp : ∀ j, j < 24 → J (dk t + 2) j = I (dk s + 2) j ∧ J (dk t + 3) j = I (dk s + 3) j) (hs : ∀ c i, c < 5 → i < nS → J (dk t + 6 + c) i = I (dk s + 6 + c) i) (h1 : ∀ E, E < 12 → ∀ c j, c < 19 → PBF c j → J (fe t E + c) j = I (fe s E + c) j) (h2 : ∀ E, E < 12 → ∀ r, r < 6 → R' (ru t E r) 0 = R (ru s E r) 0) : DR K F C S J R' sh nt t G nP nF nS := by
  have hF12 := hW.2.2.2.1
  have hP24 := hW.2.1
  obtain ⟨⟨a1, a2, a3, a4, a5, a6⟩, p1, p2, p3, p4⟩ := h
  refine ⟨⟨n1.trans a1, n2.trans a2, n3.trans a3, n4.trans a4, n5.trans a5, n6.trans a6⟩, fun p hp2 => ?_, fun i hi => ?_, fun E hE => (p3 E hE).bec (hW.2.2.2.2.1 E hE) hJ hR (h1 E (by omega)) (h2 E (by omega)), fun E h3 h4 => (p4 E h3 h4).bec (h1 E h4)⟩
  · rw [(hp p (by omega)).1, (hp p (by omega)).2]; exact p1 p hp2
  · have e0 := hs 0 i (by decide) hi
    rw [Nat.add_zero, Nat.add_zero] at e0
    rw [e0, show dk t + 7 = dk t + 6 + 1 from rfl, show dk t + 8 = dk t + 6 + 2 from rfl, show dk t + 9 = dk t + 6 + 3 from rfl, show dk t + 10 = dk t + 6 + 4 from rfl, hs 1 i (by decide) hi, hs 2 i (by decide) hi, hs 3 i (by decide) hi, hs 4 i (by decide) hi]; exact p2 i hi
/-- references: but for those of desk t all stay -/
def BR (t : Nat) (R R' : Nat → Nat → Option Nat) : Prop := (∀ a j, ¬ (dk t ≤ a ∧ a < dk t + 239) → R' a j = R a j) ∧ (RfOK R → RfOK R')
theorem BR.x {R R' : Nat → Nat → Option Nat} (h : BR 2 R R') : FrXR R R' := ⟨fun a j q _ => h.1 a j (by unfold dk; omega), h.2⟩
theorem BR.d {R R' : Nat → Nat → Option Nat} (h : BR 0 R R') : FrRD R R' := ⟨fun a j q _ => h.1 a j (by unfold dk; omega), h.2⟩
theorem c_Ru_takeO {d : Nat} {J : Nat → Nat → Int32} {R : Nat → Nat → Option Nat} {L : Nat → Nat → Int64} {sh : Nat → Nat × Nat} {N : Nat}  {q P : Nat} {x : Option Nat} (hq0 : sh q = (6, 0)) (hq1 : sh (q + 1) = (12, 3)) (hq2 : R q 2 = some (q + 1)) (hPs : sh P = (12, 3)) {f : Int32} (hd : 3 ≤ d) : Mt mi_Ru_take d 0 0 [.ref q, rv x, .int f, .ref P] (J, R, L, sh, N) (fun r h2 => r = none ∧ ∃ K1 K2 R2, h2 = (K2, R2, L, sh, N) ∧ R2 = u2 R q 0 x ∧ K1 = u2 J q 1 f ∧ K2 = cpyI K1 P 0 (q + 1) 0 3) := by
  cases x with
  | none =>
    refine Mt.of pn_Ru (Nat.le_of_ble_eq_true rfl) ?_
    show Run mi_Ru_take d 0 0 0 [(0, .ref q), (1, rv none), (2, .int f), (3, .ref P)] [] (J, R, L, sh, N) _
    refine r_aload_n (x := some q) (pc2 := 1) d_Ru_take_0 rfl rfl ?_
    refine r_aload_n (x := none) (pc2 := 2) d_Ru_take_1 rfl rfl ?_
    refine q_putR (x := none) (pc2 := 5) d_Ru_take_2 rfl k_Ru_9 rfl hq0 (Or.inl rfl) (fun R1 hR1 => ?_)
    refine r_aload_n (x := some q) (pc2 := 6) d_Ru_take_5 rfl rfl ?_
    refine r_iload_n (pc2 := 7) d_Ru_take_6 rfl rfl ?_
    refine q_putI (pc2 := 10) d_Ru_take_7 rfl k_Ru_15 (Or.inl rfl) hq0 (Or.inl rfl) (fun I2 hI2 => ?_)
    refine r_aload_n (x := some P) (pc2 := 11) d_Ru_take_10 rfl rfl ?_
    refine r_iconst (v := nI 0) (pc2 := 12) d_Ru_take_11 rfl (by decide) ?_
    refine r_aload_n (x := some q) (pc2 := 13) d_Ru_take_12 rfl rfl ?_
    refine q_getR (x := some (q + 1)) (pc2 := 16) d_Ru_take_13 rfl k_Ru_19 rfl hq0 ((rd_nk hR1 (by decide)).trans (by first | exact hq2 | (rw [rd_nk hR1 (by decide)]; exact hq2) | (rw [rd_nk hR2 (by decide)]; exact hq2))) ?_
    refine r_iconst (v := nI 0) (pc2 := 17) d_Ru_take_16 rfl (by decide) ?_
    refine r_aload_n (x := some P) (pc2 := 18) d_Ru_take_17 rfl rfl ?_
    refine r_alen (pc2 := 19) d_Ru_take_18 rfl hPs (by decide) (by decide) ?_
    refine r_iconst (v := nI 3) (pc2 := 20) d_Ru_take_19 rfl (by decide) ?_
    refine q_calls (M2 := mi_JM_min) (pc2 := 23) d_Ru_take_20 rfl k_Ru_23 cm_JM_min cs_JM_min rfl rfl (Nat.le_of_ble_eq_true rfl) (c_JM_min (A := 3) (B := 3) (by omega) (by omega)) (d2 := d - 1) (by omega) (Nat.le_of_eq (Nat.zero_add _)) (Nat.le_of_eq (Nat.zero_add _)) ?_
    refine r_copyI (SP := 0) (DP := 0) (K := 3) (pc2 := 26) d_Ru_take_23 rfl k_Ru_29 ac_native ac_static iw_JS hPs hq1 (nI_toInt (by omega)) (nI_toInt (by omega)) (nI_toInt (by omega)) (by omega) (by omega) (by omega) (Nat.le_of_ble_eq_true rfl) ?_
    obtain ⟨K3, hK3⟩ : ∃ x, x = cpyI I2 P 0 (q + 1) 0 3 := ⟨_, rfl⟩
    rw [← hK3]
    refine Run.ret none d_Ru_take_26 rfl ?_
    exact ⟨rfl, _, _, _, rfl, hR1, hI2, hK3⟩
  | some c =>
    refine Mt.of pn_Ru (Nat.le_of_ble_eq_true rfl) ?_
    show Run mi_Ru_take d 0 0 0 [(0, .ref q), (1, .ref c), (2, .int f), (3, .ref P)] [] (J, R, L, sh, N) _
    refine r_aload_n (x := some q) (pc2 := 1) d_Ru_take_0 rfl rfl ?_
    refine r_aload_n (x := some c) (pc2 := 2) d_Ru_take_1 rfl rfl ?_
    refine q_putR (x := some c) (pc2 := 5) d_Ru_take_2 rfl k_Ru_9 rfl hq0 (Or.inl rfl) (fun R1 hR1 => ?_)
    refine r_aload_n (x := some q) (pc2 := 6) d_Ru_take_5 rfl rfl ?_
    refine r_iload_n (pc2 := 7) d_Ru_take_6 rfl rfl ?_
    refine q_putI (pc2 := 10) d_Ru_take_7 rfl k_Ru_15 (Or.inl rfl) hq0 (Or.inl rfl) (fun I2 hI2 => ?_)
    refine r_aload_n (x := some P) (pc2 := 11) d_Ru_take_10 rfl rfl ?_
    refine r_iconst (v := nI 0) (pc2 := 12) d_Ru_take_11 rfl (by decide) ?_
    refine r_aload_n (x := some q) (pc2 := 13) d_Ru_take_12 rfl rfl ?_
    refine q_getR (x := some (q + 1)) (pc2 := 16) d_Ru_take_13 rfl k_Ru_19 rfl hq0 ((rd_nk hR1 (by decide)).trans (by first | exact hq2 | (rw [rd_nk hR1 (by decide)]; exact hq2) | (rw [rd_nk hR2 (by decide)]; exact hq2))) ?_
    refine r_iconst (v := nI 0) (pc2 := 17) d_Ru_take_16 rfl (by decide) ?_
    refine r_aload_n (x := some P) (pc2 := 18) d_Ru_take_17 rfl rfl ?_
    refine r_alen (pc2 := 19) d_Ru_take_18 rfl hPs (by decide) (by decide) ?_
    refine r_iconst (v := nI 3) (pc2 := 20) d_Ru_take_19 rfl (by decide) ?_
    refine q_calls (M2 := mi_JM_min) (pc2 := 23) d_Ru_take_20 rfl k_Ru_23 cm_JM_min cs_JM_min rfl rfl (Nat.le_of_ble_eq_true rfl) (c_JM_min (A := 3) (B := 3) (by omega) (by omega)) (d2 := d - 1) (by omega) (Nat.le_of_eq (Nat.zero_add _)) (Nat.le_of_eq (Nat.zero_add _)) ?_
    refine r_copyI (SP := 0) (DP := 0) (K := 3) (pc2 := 26) d_Ru_take_23 rfl k_Ru_29 ac_native ac_static iw_JS hPs hq1 (nI_toInt (by omega)) (nI_toInt (by omega)) (nI_toInt (by omega)) (by omega) (by omega) (by omega) (Nat.le_of_ble_eq_true rfl) ?_
    obtain ⟨K3, hK3⟩ : ∃ x, x = cpyI I2 P 0 (q + 1) 0 3 := ⟨_, rfl⟩
    rw [← hK3]
    refine Run.ret none d_Ru_take_26 rfl ?_
    exact ⟨rfl, _, _, _, rfl, hR1, hI2, hK3⟩
theorem c_Fe_takeLayerE {d : Nat} {J : Nat → Nat → Int32} {R : Nat → Nat → Option Nat} {L : Nat → Nat → Int64} {sh : Nat → Nat × Nat} {N : Nat} (hS : ShOK sh) (hR : RfOK R) {t F : Nat} (ht : t < 3) (hF : F < 12) {l a b : Int32} : Mt mi_Fe_takeLayer d 0 0 [.ref (fe t F), .int l, .int a, .int b] (J, R, L, sh, N) (fun r h2 => r = none ∧ ∃ K1 K2 K3, h2 = (K3, R, L, sh, N) ∧ K1 = u2 J (fe t F) 12 l ∧ K2 = u2 K1 (fe t F) 13 a ∧ K3 = u2 K2 (fe t F) 14 b) := by
  refine Mt.of pn_Fe (Nat.le_of_ble_eq_true rfl) ?_
  show Run mi_Fe_takeLayer d 0 0 0 [(0, .ref (fe t F)), (1, .int l), (2, .int a), (3, .int b)] [] (J, R, L, sh, N) _
  refine r_aload_n (x := some (fe t F)) (pc2 := 1) d_Fe_takeLayer_0 rfl rfl ?_
  refine r_iload_n (pc2 := 2) d_Fe_takeLayer_1 rfl rfl ?_
  refine q_putI (pc2 := 5) d_Fe_takeLayer_2 rfl k_Fe_52 (Or.inl rfl) (sh_fe0 hS ht hF) (Or.inl rfl) (fun I1 hI1 => ?_)
  refine r_aload_n (x := some (fe t F)) (pc2 := 6) d_Fe_takeLayer_5 rfl rfl ?_
  refine r_iload_n (pc2 := 7) d_Fe_takeLayer_6 rfl rfl ?_
  refine q_putI (pc2 := 10) d_Fe_takeLayer_7 rfl k_Fe_55 (Or.inl rfl) (sh_fe0 hS ht hF) (Or.inl rfl) (fun I2 hI2 => ?_)
  refine r_aload_n (x := some (fe t F)) (pc2 := 11) d_Fe_takeLayer_10 rfl rfl ?_
  refine r_iload_n (pc2 := 12) d_Fe_takeLayer_11 rfl rfl ?_
  refine q_putI (pc2 := 15) d_Fe_takeLayer_12 rfl k_Fe_58 (Or.inl rfl) (sh_fe0 hS ht hF) (Or.inl rfl) (fun I3 hI3 => ?_)
  refine Run.ret none d_Fe_takeLayer_15 rfl ?_
  exact ⟨rfl, _, _, _, rfl, hI1, hI2, hI3⟩
theorem l_Fe_become {d : Nat} {I : Nat → Nat → Int32} {R : Nat → Nat → Option Nat} {L : Nat → Nat → Int64} {sh : Nat → Nat × Nat} {N : Nat} (hS : ShOK sh) {s t F : Nat} (hst : s ≠ t) (hs : s < 3) (ht : t < 3) (hF : F < 12) (hd : 6 ≤ d) {Q : Option Value → HS → Prop} (hk : ∀ J1 R1, CPF (PBr 6) s t F I J1 → BRF 6 s t F R R1 → RfOK R1 → Run mi_Fe_become d 0 0 82 [(0, .ref (fe t F)), (1, .ref (fe s F))] [] (J1, R1, L, sh, N) Q) : ∀ (n_ : Nat) (i : Nat) (J1 : Nat → Nat → Int32) (R1 : Nat → Nat → Option Nat), 6 - i = n_ → (CPF (PBr i) s t F I J1) → (BRF i s t F R R1) → (RfOK R1) → (i ≤ 6) → Run mi_Fe_become d 0 0 34 [(0, .ref (fe t F)), (1, .ref (fe s F)), (2, .int (nI i))] [] (J1, R1, L, sh, N) Q := by
  intro n_
  induction n_ using Nat.strongRecOn with | ind n_ ih_ => ?_
  intro i J1 R1 hn_ v0_ v1_ v2_ v3_
  refine r_iload_n (pc2 := 35) d_Fe_become_34 rfl rfl ?_
  refine r_bipush (v := nI 6) (pc2 := 37) d_Fe_become_35 rfl (by decide) ?_
  refine q_icmp_ge (tgt := 82) (A := ((i : Nat) : Int)) (B := (6 : Int)) (pc2 := 40) d_Fe_become_37 rfl rfl (nI_toInt (by omega)) (nI_toInt (by omega)) (fun c1 => ?_) (fun c1 => ?_)
  · refine Run.sub (l2 := [(0, .ref (fe t F)), (1, .ref (fe s F))]) ⟨rfl, rfl, trivial⟩ ?_
    rw [show i = 6 by omega] at v0_ v1_; exact hk J1 R1 v0_ v1_ v2_
  · refine r_aload_n (x := some (fe t F)) (pc2 := 41) d_Fe_become_40 rfl rfl ?_
    refine q_getR (x := some (fe t F + 1)) (pc2 := 44) d_Fe_become_41 rfl k_Fe_26 rfl (sh_fe0 hS ht hF) (rf_fe_4 v2_ ht hF) ?_
    refine r_iload_n (pc2 := 45) d_Fe_become_44 rfl rfl ?_
    refine q_aaload (q := i) (x := some (ru t F i)) (pc2 := 46) d_Fe_become_45 rfl (sh_fe1 hS ht hF) (by decide) (by decide) (nI_toInt (by omega)) (by omega) (rf_ru v2_ ht hF (show i < 6 by omega)) ?_
    refine r_aload_n (x := some (fe s F)) (pc2 := 47) d_Fe_become_46 rfl rfl ?_
    refine q_getR (x := some (fe s F + 1)) (pc2 := 50) d_Fe_become_47 rfl k_Fe_26 rfl (sh_fe0 hS hs hF) (rf_fe_4 v2_ hs hF) ?_
    refine r_iload_n (pc2 := 51) d_Fe_become_50 rfl rfl ?_
    refine q_aaload (q := i) (x := some (ru s F i)) (pc2 := 52) d_Fe_become_51 rfl (sh_fe1 hS hs hF) (by decide) (by decide) (nI_toInt (by omega)) (by omega) (rf_ru v2_ hs hF (show i < 6 by omega)) ?_
    refine q_getR (x := R1 (ru s F i) 0) (pc2 := 55) d_Fe_become_52 rfl k_Fe_68 rfl (sh_ru hS hs hF (show i < 6 by omega)) rfl ?_
    refine r_aload_n (x := some (fe s F)) (pc2 := 56) d_Fe_become_55 rfl rfl ?_
    refine q_getR (x := some (fe s F + 1)) (pc2 := 59) d_Fe_become_56 rfl k_Fe_26 rfl (sh_fe0 hS hs hF) (rf_fe_4 v2_ hs hF) ?_
    refine r_iload_n (pc2 := 60) d_Fe_become_59 rfl rfl ?_
    refine q_aaload (q := i) (x := some (ru s F i)) (pc2 := 61) d_Fe_become_60 rfl (sh_fe1 hS hs hF) (by decide) (by decide) (nI_toInt (by omega)) (by omega) (rf_ru v2_ hs hF (show i < 6 by omega)) ?_
    refine q_getI (x := J1 (ru s F i) 1) (pc2 := 64) d_Fe_become_61 rfl k_Fe_72 (by decide) (sh_ru hS hs hF (show i < 6 by omega)) rfl ?_
    refine r_aload_n (x := some (fe s F)) (pc2 := 65) d_Fe_become_64 rfl rfl ?_
    refine q_getR (x := some (fe s F + 1)) (pc2 := 68) d_Fe_become_65 rfl k_Fe_26 rfl (sh_fe0 hS hs hF) (rf_fe_4 v2_ hs hF) ?_
    refine r_iload_n (pc2 := 69) d_Fe_become_68 rfl rfl ?_
    refine q_aaload (q := i) (x := some (ru s F i)) (pc2 := 70) d_Fe_become_69 rfl (sh_fe1 hS hs hF) (by decide) (by decide) (nI_toInt (by omega)) (by omega) (rf_ru v2_ hs hF (show i < 6 by omega)) ?_
    refine q_getR (x := some (ru s F i + 1)) (pc2 := 73) d_Fe_become_70 rfl k_Fe_75 rfl (sh_ru hS hs hF (show i < 6 by omega)) (rf_rp v2_ hs hF (show i < 6 by omega)) ?_
    refine r_callv (M2 := mi_Ru_take) (pc2 := 76) d_Fe_become_73 rfl k_Fe_78 cm_Ru_take cv_Ru_take (sh_ru hS ht hF (show i < 6 by omega)) (by decide) rfl rfl rfl (Nat.le_of_ble_eq_true rfl) (c_Ru_takeO (J := J1) (R := R1) (q := ru t F i) (sh_ru hS ht hF (show i < 6 by omega)) (sh_rp hS ht hF (show i < 6 by omega)) (rf_rp v2_ ht hF (show i < 6 by omega)) (P := ru s F i + 1) (sh_rp hS hs hF (show i < 6 by omega)) (x := R1 (ru s F i) 0) (f := J1 (ru s F i) 1) (d := d - 1) (by omega)) (d2 := d - 1) (by omega) (Nat.le_of_eq (Nat.zero_add _)) (Nat.le_of_eq (Nat.zero_add _)) (fun r2 h2 hq2 => ?_)
    obtain ⟨rfl, K1, K2, R2, rfl, e1, e2, e3⟩ := hq2
    change Run _ _ _ _ _ _ [] _ _
    refine q_iinc (b := 1) (pc2 := 79) d_Fe_become_76 rfl rfl (by decide) (Nat.le_of_ble_eq_true rfl) ?_
    refine r_goto (tgt := 34) d_Fe_become_79 rfl ?_
    refine Run.sub (l2 := [(0, .ref (fe t F)), (1, .ref (fe s F)), (2, .int (nI (i + 1)))]) ⟨rfl, rfl, rfl, trivial⟩ ?_
    exact ih_ (6 - (i + 1)) (by omega) (i + 1) K2 R2 rfl (CPF.rule hst hs ht hF (by omega) v0_ ((CPF.src hst hs ht hF v0_ (c := 7 + 2 * i) (by omega))) e2 e3) (BRF.s hst hs ht hF (by omega) v1_ rfl e1) (RfOK_ru v2_ (fun a j q => by
      by_cases y : a = ru t F i
      · exact y ▸ rd_nk e1 (fun w => q t F i ht hF (by omega) ⟨y, w⟩)
      · exact rd_ne e1 y)) (by omega)
theorem c_Fe_become {d : Nat} {I : Nat → Nat → Int32} {R : Nat → Nat → Option Nat} {L : Nat → Nat → Int64} {sh : Nat → Nat × Nat} {N : Nat} (hS : ShOK sh) (hR : RfOK R) {s t F : Nat} (hst : s ≠ t) (hs : s < 3) (ht : t < 3) (hF : F < 12) (hd : 10 ≤ d) : Mt mi_Fe_become d 0 0 [.ref (fe t F), .ref (fe s F)] (I, R, L, sh, N) (fun x h2 => x = none ∧ ∃ K R1, h2 = (K, R1, L, sh, N) ∧ CPF PBF s t F I K ∧ BRF 6 s t F R R1 ∧ RfOK R1) := by
  refine Mt.of pn_Fe (Nat.le_of_ble_eq_true rfl) ?_
  show Run mi_Fe_become d 0 0 0 [(0, .ref (fe t F)), (1, .ref (fe s F))] [] (I, R, L, sh, N) _
  have hC0 : CPF (fun _ _ => False) s t F I I := CPF.rf
  refine r_aload_n (x := some (fe t F)) (pc2 := 1) d_Fe_become_0 rfl rfl ?_
  refine r_aload_n (x := some (fe s F)) (pc2 := 2) d_Fe_become_1 rfl rfl ?_
  refine q_getI (x := I (fe s F) 0) (pc2 := 5) d_Fe_become_2 rfl k_Fe_9 (by decide) (sh_fe0 hS hs hF) ((CPF.src hst hs ht hF hC0 (c := 0) (by decide))) ?_
  refine q_putI (pc2 := 8) d_Fe_become_5 rfl k_Fe_9 (Or.inl rfl) (sh_fe0 hS ht hF) (Or.inl rfl) (fun I1 hI1 => ?_)
  have hCI1 := CPF.u hC0 0 0 (by decide) (show I (fe s F) 0 = I (fe s F + 0) 0 from rfl) hI1
  refine r_aload_n (x := some (fe t F)) (pc2 := 9) d_Fe_become_8 rfl rfl ?_
  refine r_aload_n (x := some (fe s F)) (pc2 := 10) d_Fe_become_9 rfl rfl ?_
  refine q_getI (x := I (fe s F) 1) (pc2 := 13) d_Fe_become_10 rfl k_Fe_15 (by decide) (sh_fe0 hS hs hF) ((CPF.src hst hs ht hF hCI1 (c := 0) (by decide))) ?_
  refine q_putI (pc2 := 16) d_Fe_become_13 rfl k_Fe_15 (Or.inl rfl) (sh_fe0 hS ht hF) (Or.inl rfl) (fun I2 hI2 => ?_)
  have hCI2 := CPF.u hCI1 0 1 (by decide) (show I (fe s F) 1 = I (fe s F + 0) 1 from rfl) hI2
  refine r_aload_n (x := some (fe t F)) (pc2 := 17) d_Fe_become_16 rfl rfl ?_
  refine r_aload_n (x := some (fe s F)) (pc2 := 18) d_Fe_become_17 rfl rfl ?_
  refine q_getI (x := I (fe s F) 2) (pc2 := 21) d_Fe_become_18 rfl k_Fe_18 (by decide) (sh_fe0 hS hs hF) ((CPF.src hst hs ht hF hCI2 (c := 0) (by decide))) ?_
  refine q_putI (pc2 := 24) d_Fe_become_21 rfl k_Fe_18 (Or.inl rfl) (sh_fe0 hS ht hF) (Or.inl rfl) (fun I3 hI3 => ?_)
  have hCI3 := CPF.u hCI2 0 2 (by decide) (show I (fe s F) 2 = I (fe s F + 0) 2 from rfl) hI3
  refine r_aload_n (x := some (fe t F)) (pc2 := 25) d_Fe_become_24 rfl rfl ?_
  refine r_aload_n (x := some (fe s F)) (pc2 := 26) d_Fe_become_25 rfl rfl ?_
  refine q_getI (x := I (fe s F) 3) (pc2 := 29) d_Fe_become_26 rfl k_Fe_21 (by decide) (sh_fe0 hS hs hF) ((CPF.src hst hs ht hF hCI3 (c := 0) (by decide))) ?_
  refine q_putI (pc2 := 32) d_Fe_become_29 rfl k_Fe_21 (Or.inl rfl) (sh_fe0 hS ht hF) (Or.inl rfl) (fun I4 hI4 => ?_)
  have hCI4 := CPF.u hCI3 0 3 (by decide) (show I (fe s F) 3 = I (fe s F + 0) 3 from rfl) hI4
  refine r_iconst (v := nI 0) (pc2 := 33) d_Fe_become_32 rfl (by decide) ?_
  refine r_istore_n (pc2 := 34) d_Fe_become_33 rfl rfl (Nat.le_of_ble_eq_true rfl) ?_
  refine Run.sub (l2 := [(0, .ref (fe t F)), (1, .ref (fe s F)), (2, .int (nI 0))]) ⟨rfl, rfl, rfl, trivial⟩ ?_
  refine l_Fe_become hS hst hs ht hF (by omega) (hk := fun J1 R1 hC1 hB1 hR1 => ?_) _ 0 I4 R rfl (CPF.imp hCI4 (fun c j hc q => by unfold PBr at q; omega)) BRF.rf hR (Nat.zero_le _)
  refine r_aload_n (x := some (fe t F)) (pc2 := 83) d_Fe_become_82 rfl rfl ?_
  refine r_aload_n (x := some (fe s F)) (pc2 := 84) d_Fe_become_83 rfl rfl ?_
  refine q_getI (x := I (fe s F) 5) (pc2 := 87) d_Fe_become_84 rfl k_Fe_30 (by decide) (sh_fe0 hS hs hF) ((CPF.src hst hs ht hF hC1 (c := 0) (by decide))) ?_
  refine q_putI (pc2 := 90) d_Fe_become_87 rfl k_Fe_30 (Or.inl rfl) (sh_fe0 hS ht hF) (Or.inl rfl) (fun I5 hI5 => ?_)
  have hCI5 := CPF.u hC1 0 5 (by decide) (show I (fe s F) 5 = I (fe s F + 0) 5 from rfl) hI5
  refine r_aload_n (x := some (fe s F)) (pc2 := 91) d_Fe_become_90 rfl rfl ?_
  refine q_getR (x := some (fe s F + 2)) (pc2 := 94) d_Fe_become_91 rfl k_Fe_33 rfl (sh_fe0 hS hs hF) (rf_fe_6 hR1 hs hF) ?_
  refine r_iconst (v := nI 0) (pc2 := 95) d_Fe_become_94 rfl (by decide) ?_
  refine r_aload_n (x := some (fe t F)) (pc2 := 96) d_Fe_become_95 rfl rfl ?_
  refine q_getR (x := some (fe t F + 2)) (pc2 := 99) d_Fe_become_96 rfl k_Fe_33 rfl (sh_fe0 hS ht hF) (rf_fe_6 hR1 ht hF) ?_
  refine r_iconst (v := nI 0) (pc2 := 100) d_Fe_become_99 rfl (by decide) ?_
  refine r_iconst (v := nI 3) (pc2 := 101) d_Fe_become_100 rfl (by decide) ?_
  refine r_copyI (SP := 0) (DP := 0) (K := 3) (pc2 := 104) d_Fe_become_101 rfl k_Fe_82 ac_native ac_static iw_JS (sh_fe2 hS hs hF) (sh_fe2 hS ht hF) (nI_toInt (by omega)) (nI_toInt (by omega)) (nI_toInt (by omega)) (by omega) (by omega) (by omega) (Nat.le_of_ble_eq_true rfl) ?_
  obtain ⟨K6, hK6⟩ : ∃ x, x = cpyI I5 (fe s F + 2) 0 (fe t F + 2) 0 3 := ⟨_, rfl⟩
  rw [← hK6]
  have hCK6 := CPF.c hst hs ht hF hCI5 2 3 (by decide) hK6
  refine r_aload_n (x := some (fe s F)) (pc2 := 105) d_Fe_become_104 rfl rfl ?_
  refine q_getR (x := some (fe s F + 3)) (pc2 := 108) d_Fe_become_105 rfl k_Fe_37 rfl (sh_fe0 hS hs hF) (rf_fe_7 hR1 hs hF) ?_
  refine r_iconst (v := nI 0) (pc2 := 109) d_Fe_become_108 rfl (by decide) ?_
  refine r_aload_n (x := some (fe t F)) (pc2 := 110) d_Fe_become_109 rfl rfl ?_
  refine q_getR (x := some (fe t F + 3)) (pc2 := 113) d_Fe_become_110 rfl k_Fe_37 rfl (sh_fe0 hS ht hF) (rf_fe_7 hR1 ht hF) ?_
  refine r_iconst (v := nI 0) (pc2 := 114) d_Fe_become_113 rfl (by decide) ?_
  refine r_iconst (v := nI 3) (pc2 := 115) d_Fe_become_114 rfl (by decide) ?_
  refine r_copyI (SP := 0) (DP := 0) (K := 3) (pc2 := 118) d_Fe_become_115 rfl k_Fe_82 ac_native ac_static iw_JS (sh_fe3 hS hs hF) (sh_fe3 hS ht hF) (nI_toInt (by omega)) (nI_toInt (by omega)) (nI_toInt (by omega)) (by omega) (by omega) (by omega) (Nat.le_of_ble_eq_true rfl) ?_
  obtain ⟨K7, hK7⟩ : ∃ x, x = cpyI K6 (fe s F + 3) 0 (fe t F + 3) 0 3 := ⟨_, rfl⟩
  rw [← hK7]
  have hCK7 := CPF.c hst hs ht hF hCK6 3 3 (by decide) hK7
  refine r_aload_n (x := some (fe t F)) (pc2 := 119) d_Fe_become_118 rfl rfl ?_
  refine r_aload_n (x := some (fe s F)) (pc2 := 120) d_Fe_become_119 rfl rfl ?_
  refine q_getI (x := I (fe s F) 8) (pc2 := 123) d_Fe_become_120 rfl k_Fe_40 (by decide) (sh_fe0 hS hs hF) ((CPF.src hst hs ht hF hCK7 (c := 0) (by decide))) ?_
  refine q_putI (pc2 := 126) d_Fe_become_123 rfl k_Fe_40 (Or.inl rfl) (sh_fe0 hS ht hF) (Or.inl rfl) (fun I8 hI8 => ?_)
  have hCI8 := CPF.u hCK7 0 8 (by decide) (show I (fe s F) 8 = I (fe s F + 0) 8 from rfl) hI8
  refine r_aload_n (x := some (fe s F)) (pc2 := 127) d_Fe_become_126 rfl rfl ?_
  refine q_getR (x := some (fe s F + 4)) (pc2 := 130) d_Fe_become_127 rfl k_Fe_43 rfl (sh_fe0 hS hs hF) (rf_fe_9 hR1 hs hF) ?_
  refine r_iconst (v := nI 0) (pc2 := 131) d_Fe_become_130 rfl (by decide) ?_
  refine r_aload_n (x := some (fe t F)) (pc2 := 132) d_Fe_become_131 rfl rfl ?_
  refine q_getR (x := some (fe t F + 4)) (pc2 := 135) d_Fe_become_132 rfl k_Fe_43 rfl (sh_fe0 hS ht hF) (rf_fe_9 hR1 ht hF) ?_
  refine r_iconst (v := nI 0) (pc2 := 136) d_Fe_become_135 rfl (by decide) ?_
  refine r_bipush (v := nI 24) (pc2 := 138) d_Fe_become_136 rfl (by decide) ?_
  refine r_copyI (SP := 0) (DP := 0) (K := 24) (pc2 := 141) d_Fe_become_138 rfl k_Fe_82 ac_native ac_static iw_JS (sh_fe4 hS hs hF) (sh_fe4 hS ht hF) (nI_toInt (by omega)) (nI_toInt (by omega)) (nI_toInt (by omega)) (by omega) (by omega) (by omega) (Nat.le_of_ble_eq_true rfl) ?_
  obtain ⟨K9, hK9⟩ : ∃ x, x = cpyI I8 (fe s F + 4) 0 (fe t F + 4) 0 24 := ⟨_, rfl⟩
  rw [← hK9]
  have hCK9 := CPF.c hst hs ht hF hCI8 4 24 (by decide) hK9
  refine r_aload_n (x := some (fe s F)) (pc2 := 142) d_Fe_become_141 rfl rfl ?_
  refine q_getR (x := some (fe s F + 5)) (pc2 := 145) d_Fe_become_142 rfl k_Fe_46 rfl (sh_fe0 hS hs hF) (rf_fe_10 hR1 hs hF) ?_
  refine r_iconst (v := nI 0) (pc2 := 146) d_Fe_become_145 rfl (by decide) ?_
  refine r_aload_n (x := some (fe t F)) (pc2 := 147) d_Fe_become_146 rfl rfl ?_
  refine q_getR (x := some (fe t F + 5)) (pc2 := 150) d_Fe_become_147 rfl k_Fe_46 rfl (sh_fe0 hS ht hF) (rf_fe_10 hR1 ht hF) ?_
  refine r_iconst (v := nI 0) (pc2 := 151) d_Fe_become_150 rfl (by decide) ?_
  refine r_bipush (v := nI 24) (pc2 := 153) d_Fe_become_151 rfl (by decide) ?_
  refine r_copyI (SP := 0) (DP := 0) (K := 24) (pc2 := 156) d_Fe_become_153 rfl k_Fe_82 ac_native ac_static iw_JS (sh_fe5 hS hs hF) (sh_fe5 hS ht hF) (nI_toInt (by omega)) (nI_toInt (by omega)) (nI_toInt (by omega)) (by omega) (by omega) (by omega) (Nat.le_of_ble_eq_true rfl) ?_
  obtain ⟨K10, hK10⟩ : ∃ x, x = cpyI K9 (fe s F + 5) 0 (fe t F + 5) 0 24 := ⟨_, rfl⟩
  rw [← hK10]
  have hCK10 := CPF.c hst hs ht hF hCK9 5 24 (by decide) hK10
  refine r_aload_n (x := some (fe s F)) (pc2 := 157) d_Fe_become_156 rfl rfl ?_
  refine q_getR (x := some (fe s F + 6)) (pc2 := 160) d_Fe_become_157 rfl k_Fe_49 rfl (sh_fe0 hS hs hF) (rf_fe_11 hR1 hs hF) ?_
  refine r_iconst (v := nI 0) (pc2 := 161) d_Fe_become_160 rfl (by decide) ?_
  refine r_aload_n (x := some (fe t F)) (pc2 := 162) d_Fe_become_161 rfl rfl ?_
  refine q_getR (x := some (fe t F + 6)) (pc2 := 165) d_Fe_become_162 rfl k_Fe_49 rfl (sh_fe0 hS ht hF) (rf_fe_11 hR1 ht hF) ?_
  refine r_iconst (v := nI 0) (pc2 := 166) d_Fe_become_165 rfl (by decide) ?_
  refine r_iconst (v := nI 4) (pc2 := 167) d_Fe_become_166 rfl (by decide) ?_
  refine r_copyI (SP := 0) (DP := 0) (K := 4) (pc2 := 170) d_Fe_become_167 rfl k_Fe_82 ac_native ac_static iw_JS (sh_fe6 hS hs hF) (sh_fe6 hS ht hF) (nI_toInt (by omega)) (nI_toInt (by omega)) (nI_toInt (by omega)) (by omega) (by omega) (by omega) (Nat.le_of_ble_eq_true rfl) ?_
  obtain ⟨K11, hK11⟩ : ∃ x, x = cpyI K10 (fe s F + 6) 0 (fe t F + 6) 0 4 := ⟨_, rfl⟩
  rw [← hK11]
  have hCK11 := CPF.c hst hs ht hF hCK10 6 4 (by decide) hK11
  refine r_aload_n (x := some (fe t F)) (pc2 := 171) d_Fe_become_170 rfl rfl ?_
  refine r_aload_n (x := some (fe s F)) (pc2 := 172) d_Fe_become_171 rfl rfl ?_
  refine q_getI (x := I (fe s F) 12) (pc2 := 175) d_Fe_become_172 rfl k_Fe_52 (by decide) (sh_fe0 hS hs hF) ((CPF.src hst hs ht hF hCK11 (c := 0) (by decide))) ?_
  refine r_aload_n (x := some (fe s F)) (pc2 := 176) d_Fe_become_175 rfl rfl ?_
  refine q_getI (x := I (fe s F) 13) (pc2 := 179) d_Fe_become_176 rfl k_Fe_55 (by decide) (sh_fe0 hS hs hF) ((CPF.src hst hs ht hF hCK11 (c := 0) (by decide))) ?_
  refine r_aload_n (x := some (fe s F)) (pc2 := 180) d_Fe_become_179 rfl rfl ?_
  refine q_getI (x := I (fe s F) 14) (pc2 := 183) d_Fe_become_180 rfl k_Fe_58 (by decide) (sh_fe0 hS hs hF) ((CPF.src hst hs ht hF hCK11 (c := 0) (by decide))) ?_
  refine r_callv (M2 := mi_Fe_takeLayer) (pc2 := 186) d_Fe_become_183 rfl k_Fe_88 cm_Fe_takeLayer cv_Fe_takeLayer (sh_fe0 hS ht hF) (by decide) rfl rfl rfl (Nat.le_of_ble_eq_true rfl) (c_Fe_takeLayerE (J := K11) hS hR1 ht hF (l := I (fe s F) 12) (a := I (fe s F) 13) (b := I (fe s F) 14)) (d2 := d - 1) (by omega) (Nat.le_of_eq (Nat.zero_add _)) (Nat.le_of_eq (Nat.zero_add _)) (fun r2 h2 hq2 => ?_)
  obtain ⟨rfl, I12, I13, I14, rfl, hI12, hI13, hI14⟩ := hq2
  change Run _ _ _ _ _ _ [] _ _
  have hCI12 := CPF.u hCK11 0 12 (by decide) (show I (fe s F) 12 = I (fe s F + 0) 12 from rfl) hI12
  have hCI13 := CPF.u hCI12 0 13 (by decide) (show I (fe s F) 13 = I (fe s F + 0) 13 from rfl) hI13
  have hCI14 := CPF.u hCI13 0 14 (by decide) (show I (fe s F) 14 = I (fe s F + 0) 14 from rfl) hI14
  refine Run.ret none d_Fe_become_186 rfl ?_
  refine ⟨rfl, _, _, rfl, CPF.imp hCI14 (fun c j hc q => ?_), hB1, hR1⟩
  rcases q with ⟨h1, h | h | h | h | h | h⟩ | ⟨h1, h2, h3⟩ | ⟨h1, h2, h3⟩ | ⟨h1, h2⟩ | ⟨h1, h2⟩
  · exact Or.inl (Or.inl (Or.inl (Or.inl (Or.inl (Or.inl (Or.inl (Or.inl (Or.inl (Or.inl ((by unfold PBr; omega)))))))))))
  · exact Or.inl (Or.inl (Or.inl (Or.inl (Or.inl (Or.inl (Or.inl (Or.inl (Or.inl (Or.inr (⟨h1, h⟩))))))))))
  · exact Or.inl (Or.inl (Or.inl (Or.inl (Or.inl (Or.inl (Or.inr (⟨h1, h⟩)))))))
  · exact Or.inl (Or.inl (Or.inr (⟨h1, h⟩)))
  · exact Or.inl (Or.inr (⟨h1, h⟩))
  · exact Or.inr (⟨h1, h⟩)
  · rcases (show c = 2 ∨ c = 3 by omega) with z | z
    · exact Or.inl (Or.inl (Or.inl (Or.inl (Or.inl (Or.inl (Or.inl (Or.inl (Or.inr (⟨z, h3⟩)))))))))
    · exact Or.inl (Or.inl (Or.inl (Or.inl (Or.inl (Or.inl (Or.inl (Or.inr (⟨z, h3⟩))))))))
  · rcases (show c = 4 ∨ c = 5 by omega) with z | z
    · exact Or.inl (Or.inl (Or.inl (Or.inl (Or.inl (Or.inr (⟨z, h3⟩))))))
    · exact Or.inl (Or.inl (Or.inl (Or.inl (Or.inr (⟨z, h3⟩)))))
  · exact Or.inl (Or.inl (Or.inl (Or.inr (⟨h1, h2⟩))))
  · exact Or.inl (Or.inl (Or.inl (Or.inl (Or.inl (Or.inl (Or.inl (Or.inl (Or.inl (Or.inl ((by unfold PBr; omega)))))))))))
