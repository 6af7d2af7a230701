/-! THE CLASS: steps -/
/-- but for desk e all stays -/
def FrE (e : Nat) (I J : Nat → Nat → Int32) : Prop := ∀ a j, ¬ (dk e ≤ a ∧ a < dk e + 239) → J a j = I a j
theorem FrE.rf {e : Nat} {I : Nat → Nat → Int32} : FrE e I I := fun _ _ _ => rfl
theorem FrE.tr {e : Nat} {I J K : Nat → Nat → Int32} (h : FrE e I J) (h2 : FrE e J K) : FrE e I K := fun a j q => (h2 a j q).trans (h a j q)
theorem FrE.put {e : Nat} {I J K : Nat → Nat → Int32} {a j : Nat} {v : Int32} (h : FrE e I J) (q : K = u2 J a j v) (hc : dk e ≤ a ∧ a < dk e + 239) : FrE e I K := by
  intro b i z
  rw [← h b i z, q]
  unfold u2
  rw [if_neg (fun y => z (by rw [y.1]; exact hc))]
theorem FrE.d {sh : Nat → Nat × Nat} {I J : Nat → Nat → Int32} (h : FrE 0 I J) : FrD sh I J := fun a j _ q => h a j (by unfold dk; omega)
theorem FrE.x {sh : Nat → Nat × Nat} {I J : Nat → Nat → Int32} (h : FrE 2 I J) : FrX sh I J := fun a j q => h a j (fun z => q (Or.inl (by unfold dk at z; omega)))
theorem bestI_gt {G : Nat → Int32} {t : Int32} {k : Nat} (h : t.toInt < (G (54 + 5 * k)).toInt) : bestI G t (k + 1) = bestI G t k := by
  rw [bestI_s]
  cases bestI G t k with
  | none => exact if_neg (by omega)
  | some b => exact if_neg (by omega)
theorem bestI_n {G : Nat → Int32} {t : Int32} {k : Nat} (e : bestI G t k = none) (h : (G (54 + 5 * k)).toInt ≤ t.toInt) : bestI G t (k + 1) = some k := by
  rw [bestI_s, e]; exact if_pos h
theorem bestI_y {G : Nat → Int32} {t : Int32} {k b : Nat} (e : bestI G t k = some b) (h : (G (54 + 5 * k)).toInt ≤ t.toInt) (h2 : (G (54 + 5 * k)).toInt < (G (54 + 5 * b)).toInt) : bestI G t (k + 1) = some k := by
  rw [bestI_s, e]; exact if_pos ⟨h, h2⟩
theorem bestI_x {G : Nat → Int32} {t : Int32} {k b : Nat} (e : bestI G t k = some b) (h2 : ¬ (G (54 + 5 * k)).toInt < (G (54 + 5 * b)).toInt) : bestI G t (k + 1) = some b := by
  rw [bestI_s, e]; exact if_neg (fun z => h2 z.2)
/-- a step's row taken from another place -/
def tk5 (J : Nat → Nat → Int32) (A B p q : Nat) : Nat → Nat → Int32 := fun a j => if (A ≤ a ∧ a < A + 5) ∧ j = q then J (B + (a - A)) p else J a j
theorem tk5_eq {J K1 K2 K3 K4 K5 : Nat → Nat → Int32} (A B : Nat) {p q : Nat} (h1 : K1 = u2 J A q (J B p)) (h2 : K2 = u2 K1 (A + 1) q (J (B + 1) p)) (h3 : K3 = u2 K2 (A + 2) q (J (B + 2) p)) (h4 : K4 = u2 K3 (A + 3) q (J (B + 3) p)) (h5 : K5 = u2 K4 (A + 4) q (J (B + 4) p)) : K5 = tk5 J A B p q := by
  funext a j
  rw [h5, h4, h3, h2, h1]
  unfold u2 tk5
  by_cases hj : j = q
  · by_cases ha : A ≤ a ∧ a < A + 5
    · rw [if_pos (show (A ≤ a ∧ a < A + 5) ∧ j = q from ⟨ha, hj⟩)]
      rcases (show a = A ∨ a = A + 1 ∨ a = A + 2 ∨ a = A + 3 ∨ a = A + 4 by omega) with e | e | e | e | e
      · rw [if_neg (by omega), if_neg (by omega), if_neg (by omega), if_neg (by omega), if_pos (by omega), show a - A = 0 by omega]; rfl
      · rw [if_neg (by omega), if_neg (by omega), if_neg (by omega), if_pos (by omega), show a - A = 1 by omega]
      · rw [if_neg (by omega), if_neg (by omega), if_pos (by omega), show a - A = 2 by omega]
      · rw [if_neg (by omega), if_pos (by omega), show a - A = 3 by omega]
      · rw [if_pos (by omega), show a - A = 4 by omega]
    · rw [if_neg (by omega), if_neg (by omega), if_neg (by omega), if_neg (by omega), if_neg (by omega), if_neg (by omega)]
  · rw [if_neg (by omega), if_neg (by omega), if_neg (by omega), if_neg (by omega), if_neg (by omega), if_neg (by omega)]
/-- the steps behind a place come nearer by one -/
def st5 (I : Nat → Nat → Int32) (A p i : Nat) : Nat → Nat → Int32 := fun a j => if (A ≤ a ∧ a < A + 5) ∧ p ≤ j ∧ j < i then I a (j + 1) else I a j
theorem st5_0 {I : Nat → Nat → Int32} {A p : Nat} : st5 I A p p = I := by
  funext a j
  unfold st5
  rw [if_neg (by omega)]
theorem st5_s {I : Nat → Nat → Int32} {A p i : Nat} (h : p ≤ i) : tk5 (st5 I A p i) A A (i + 1) i = st5 I A p (i + 1) := by
  funext a j
  unfold tk5 st5
  by_cases ha : A ≤ a ∧ a < A + 5
  · by_cases hj : j = i
    · subst hj
      rw [if_pos ⟨ha, rfl⟩, if_neg (by omega), if_pos (by omega), show A + (a - A) = a by omega]
    · rw [if_neg (by omega)]
      by_cases q : p ≤ j ∧ j < i
      · rw [if_pos (by omega), if_pos (by omega)]
      · rw [if_neg (by omega), if_neg (by omega)]
  · rw [if_neg (by omega), if_neg (by omega), if_neg (by omega)]
theorem st5_o {I : Nat → Nat → Int32} {A p i a j : Nat} (h : a < A ∨ A + 5 ≤ a) : st5 I A p i a j = I a j := by unfold st5; rw [if_neg (by omega)]
theorem st5_i {I : Nat → Nat → Int32} {A p i k j : Nat} (hk : k < 5) : st5 I A p i (A + k) j = if p ≤ j ∧ j < i then I (A + k) (j + 1) else I (A + k) j := by
  unfold st5
  by_cases q : p ≤ j ∧ j < i
  · rw [if_pos (by omega), if_pos q]
  · rw [if_neg (by omega), if_neg q]
/-- a step is no more -/
theorem DR.unstep {K F C S : Nat → Int32} {I J : Nat → Nat → Int32} {R : Nat → Nat → Option Nat} {sh : Nat → Nat × Nat} {nt e nP nF nS b : Nat} {G : Nat → Int32} (he : e < 3) (hW : WFA G nP nF nt) (hS24 : nS ≤ 24) (hb : b < nS) (h : DR K F C S I R sh nt e G nP nF nS) (hK : J = u2 (st5 I (dk e + 6) b (nS - 1)) (dk e + 5) 5 (nI (nS - 1))) : DR K F C S J R sh nt e (shf (u1 G 2 (nI (nS - 1))) (54 + 5 * b) (54 + 5 * (nS - 1)) 5) nP nF (nS - 1) := by
  have hP24 := hW.2.1
  have hF12 := hW.2.2.2.1
  obtain ⟨G', hG'⟩ : ∃ G', G' = shf (u1 G 2 (nI (nS - 1))) (54 + 5 * b) (54 + 5 * (nS - 1)) 5 := ⟨_, rfl⟩
  rw [← hG']
  have hg : ∀ j, j ≠ 2 → (j < 54 ∨ 174 ≤ j) → G' j = G j := fun j h1 h2 => by rw [hG', shf_o (by omega), u1_o h1]
  have hgs : ∀ i m, i < nS - 1 → m < 5 → G' (54 + 5 * i + m) = G (54 + 5 * (if b ≤ i then i + 1 else i) + m) := fun i m hi hm => by
    by_cases q : b ≤ i
    · rw [if_pos q, hG']
      unfold shf
      rw [if_pos (by omega), u1_o (by omega)]; congr 1; omega
    · rw [if_neg q, hG', shf_o (by omega), u1_o (by omega)]
  have hj : ∀ a j, (a < dk e + 5 ∨ dk e + 11 ≤ a) → J a j = I a j := fun a j h => by rw [rd_ne hK (by omega), st5_o (by omega)]
  have hjs : ∀ i m, i < nS - 1 → m < 5 → J (dk e + 6 + m) i = I (dk e + 6 + m) (if b ≤ i then i + 1 else i) := fun i m hi hm => by
    rw [rd_ne hK (by omega), st5_i hm]
    by_cases q : b ≤ i
    · rw [if_pos (by omega), if_pos q]
    · rw [if_neg (by omega), if_neg q]
  have hfe : ∀ E, E < 12 → dk e + 11 ≤ fe e E ∧ fe e E + 19 ≤ dk e + 239 := fun E hE => by unfold fe dk; omega
  obtain ⟨⟨a1, a2, a3, a4, a5, a6⟩, p1, p2, p3, p4⟩ := h
  refine ⟨⟨by rw [hj _ _ (by omega)]; exact a1, by rw [hj _ _ (by omega)]; exact a2, by rw [hj _ _ (by omega), hg _ (by omega) (by omega)]; exact a3, by rw [hj _ _ (by omega), hg _ (by omega) (by omega)]; exact a4, by rw [hj _ _ (by omega), hg _ (by omega) (by omega)]; exact a5, rd_eq hK⟩, fun p hp => by rw [hj _ _ (by omega), hj _ _ (by omega), hg _ (by omega) (by omega), hg _ (by omega) (by omega)]; exact p1 p hp, fun i hi => ?_, fun E hE => ?_, fun E h2 hE => ?_⟩
  · have := p2 (if b ≤ i then i + 1 else i) (by split <;> omega)
    have e0 := hjs i 0 hi (by decide)
    have f0 := hgs i 0 hi (by decide)
    rw [Nat.add_zero, Nat.add_zero] at f0
    rw [Nat.add_zero] at e0
    rw [e0, f0, hjs i 1 hi (by decide), hjs i 2 hi (by decide), hjs i 3 hi (by decide), hjs i 4 hi (by decide), hgs i 1 hi (by decide), hgs i 2 hi (by decide), hgs i 3 hi (by decide), hgs i 4 hi (by decide)]
    exact this
  · have q := hfe E (by omega)
    exact (p3 E hE).c (hW.2.2.2.2.1 E hE) (fun a j h1 _ => hj a j (by unfold dk at *; omega)) (fun _ _ _ => rfl) (fun k j hk => hj _ _ (by omega)) (fun _ _ _ => rfl) (fun w hw => hg _ (by omega) (by omega)) (fun p hp => hg _ (by omega) (by omega))
  · have q := hfe E hE
    exact (p4 E h2 hE).c (fun k j hk => hj _ _ (by omega))
/-- a feature of a desk changes by writes to its own cells alone -/
theorem DR.fE {K F C S : Nat → Int32} {I J : Nat → Nat → Int32} {R : Nat → Nat → Option Nat} {sh : Nat → Nat × Nat} {nt e nP nF nS E : Nat} {G G' : Nat → Int32} (he : e < 3) (hW : WFA G nP nF nt) (hT : WFT G nF nS) (hE : E < nF) (h : DR K F C S I R sh nt e G nP nF nS) (hJ : ∀ a j, ¬ (fe e E ≤ a ∧ a < fe e E + 19) → J a j = I a j) (hG : ∀ j, j < 174 + 84 * E ∨ 174 + 84 * E + 84 ≤ j → G' j = G j) (hFR : FR K F C S J R sh nt e G' nP E) : DR K F C S J R sh nt e G' nP nF nS := by
  have hF12 := hW.2.2.2.1
  exact DR.feat hW hT he hE h (fun a j h1 _ => hJ a j (by unfold fe; omega)) (fun _ _ _ => rfl) (fun a j _ _ q => hJ a j q) (fun _ _ _ _ _ => rfl) hG hFR
theorem l_St_firstTill_0 {d : Nat} {J : Nat → Nat → Int32} {R : Nat → Nat → Option Nat} {L : Nat → Nat → Int64} {sh : Nat → Nat × Nat} {N : Nat} (hS : ShOK sh) (hR : RfOK R) {tK tF tC tS : Nat → Int32} {nt : Nat} {G : Nat → Int32} {nP nF nS : Nat} (hS24 : nS ≤ 24) (hD : DR tK tF tC tS J R sh nt 0 G nP nF nS) {t : Int32} {Q : Option Value → HS → Prop} (hq : Q (some (.int (vo (bestI G t nS)))) (J, R, L, sh, N)) : ∀ (n_ : Nat) (i : Nat), nS - i = n_ → (i ≤ nS) → Run mi_St_firstTill d 0 0 4 [(0, .ref 6), (1, .int t), (2, .int (vo (bestI G t i))), (3, .int (nI i))] [] (J, R, L, sh, N) Q := by
  intro n_
  induction n_ using Nat.strongRecOn with | ind n_ ih_ => ?_
  intro i hn_ v0_
  refine r_iload_n (pc2 := 5) d_St_firstTill_4 rfl rfl ?_
  refine r_aload_n (x := some 6) (pc2 := 6) d_St_firstTill_5 rfl rfl ?_
  refine q_getI (x := nI nS) (pc2 := 9) d_St_firstTill_6 rfl k_St_27 (by decide) (sh_6 hS) hD.1.2.2.2.2.2 ?_
  refine q_icmp_ge (tgt := 50) (A := ((i : Nat) : Int)) (B := ((nS : Nat) : Int)) (pc2 := 12) d_St_firstTill_9 rfl rfl (nI_toInt (by omega)) (nI_toInt (by omega)) (fun c1 => ?_) (fun c1 => ?_)
  · refine r_iload_n (pc2 := 51) d_St_firstTill_50 rfl rfl ?_
    refine Run.ret (some (.int (vo (bestI G t i)))) d_St_firstTill_51 ⟨_, rfl⟩ ?_
    rw [show i = nS by omega]; exact hq
  · refine r_aload_n (x := some 6) (pc2 := 13) d_St_firstTill_12 rfl rfl ?_
    refine q_getR (x := some 7) (pc2 := 16) d_St_firstTill_13 rfl k_St_9 rfl (sh_6 hS) (rf_6_0 hR) ?_
    refine r_iload_n (pc2 := 17) d_St_firstTill_16 rfl rfl ?_
    refine q_iaload (q := i) (x := G (54 + 5 * i)) (pc2 := 18) d_St_firstTill_17 rfl (sh_7 hS) (nI_toInt (by omega)) (by omega) ((hD.2.2.1 i (by omega)).1) ?_
    refine r_iload_n (pc2 := 19) d_St_firstTill_18 rfl rfl ?_
    refine q_icmp_gt (tgt := 44) (A := (G (54 + 5 * i)).toInt) (B := t.toInt) (pc2 := 22) d_St_firstTill_19 rfl rfl (rfl) (rfl) (fun c2 => ?_) (fun c2 => ?_)
    · refine q_iinc (b := 1) (pc2 := 47) d_St_firstTill_44 rfl rfl (by decide) (Nat.le_of_ble_eq_true rfl) ?_
      refine r_goto (tgt := 4) d_St_firstTill_47 rfl ?_
      rw [show vo (bestI G t i) = vo (bestI G t (i + 1)) from by rw [bestI_gt (by omega)]]
      refine Run.sub (l2 := [(0, .ref 6), (1, .int t), (2, .int (vo (bestI G t (i + 1)))), (3, .int (nI (i + 1)))]) ⟨rfl, rfl, rfl, rfl, trivial⟩ ?_
      exact ih_ (nS - (i + 1)) (by omega) (i + 1) rfl (by omega)
    · cases hbi : bestI G t i with
      | none =>
        refine r_iload_n (pc2 := 23) d_St_firstTill_22 rfl rfl ?_
        refine r_iconst (v := (-1 : Int32)) (pc2 := 24) d_St_firstTill_23 rfl (by decide) ?_
        refine q_icmp_eq (tgt := 42) (A := (-1 : Int)) (B := (-1 : Int)) (pc2 := 27) d_St_firstTill_24 rfl rfl (by decide) (by decide) (fun c3 => ?_) (fun c3 => ?_)
        rotate_left
        · exfalso; omega
        refine r_iload_n (pc2 := 43) d_St_firstTill_42 rfl rfl ?_
        refine r_istore_n (pc2 := 44) d_St_firstTill_43 rfl rfl (Nat.le_of_ble_eq_true rfl) ?_
        refine q_iinc (b := 1) (pc2 := 47) d_St_firstTill_44 rfl rfl (by decide) (Nat.le_of_ble_eq_true rfl) ?_
        refine r_goto (tgt := 4) d_St_firstTill_47 rfl ?_
        rw [show nI i = vo (bestI G t (i + 1)) from by rw [bestI_n hbi (by omega)]; rfl]
        refine Run.sub (l2 := [(0, .ref 6), (1, .int t), (2, .int (vo (bestI G t (i + 1)))), (3, .int (nI (i + 1)))]) ⟨rfl, rfl, rfl, rfl, trivial⟩ ?_
        exact ih_ (nS - (i + 1)) (by omega) (i + 1) rfl (by omega)
      | some b =>
        have hbl := bestI_lt hbi
        refine r_iload_n (pc2 := 23) d_St_firstTill_22 rfl rfl ?_
        refine r_iconst (v := (-1 : Int32)) (pc2 := 24) d_St_firstTill_23 rfl (by decide) ?_
        refine q_icmp_eq (tgt := 42) (A := ((b : Nat) : Int)) (B := (-1 : Int)) (pc2 := 27) d_St_firstTill_24 rfl rfl (nI_toInt (by omega)) (by decide) (fun c4 => ?_) (fun c4 => ?_)
        · exfalso; omega
        refine r_aload_n (x := some 6) (pc2 := 28) d_St_firstTill_27 rfl rfl ?_
        refine q_getR (x := some 7) (pc2 := 31) d_St_firstTill_28 rfl k_St_9 rfl (sh_6 hS) (rf_6_0 hR) ?_
        refine r_iload_n (pc2 := 32) d_St_firstTill_31 rfl rfl ?_
        refine q_iaload (q := i) (x := G (54 + 5 * i)) (pc2 := 33) d_St_firstTill_32 rfl (sh_7 hS) (nI_toInt (by omega)) (by omega) ((hD.2.2.1 i (by omega)).1) ?_
        refine r_aload_n (x := some 6) (pc2 := 34) d_St_firstTill_33 rfl rfl ?_
        refine q_getR (x := some 7) (pc2 := 37) d_St_firstTill_34 rfl k_St_9 rfl (sh_6 hS) (rf_6_0 hR) ?_
        refine r_iload_n (pc2 := 38) d_St_firstTill_37 rfl rfl ?_
        refine q_iaload (q := b) (x := G (54 + 5 * b)) (pc2 := 39) d_St_firstTill_38 rfl (sh_7 hS) (nI_toInt (by omega)) (by omega) ((hD.2.2.1 b (by omega)).1) ?_
        refine q_icmp_ge (tgt := 44) (A := (G (54 + 5 * i)).toInt) (B := (G (54 + 5 * b)).toInt) (pc2 := 42) d_St_firstTill_39 rfl rfl (rfl) (rfl) (fun c5 => ?_) (fun c5 => ?_)
        · refine q_iinc (b := 1) (pc2 := 47) d_St_firstTill_44 rfl rfl (by decide) (Nat.le_of_ble_eq_true rfl) ?_
          refine r_goto (tgt := 4) d_St_firstTill_47 rfl ?_
          rw [show vo (some b) = vo (bestI G t (i + 1)) from by rw [bestI_x hbi (by omega)]]
          refine Run.sub (l2 := [(0, .ref 6), (1, .int t), (2, .int (vo (bestI G t (i + 1)))), (3, .int (nI (i + 1)))]) ⟨rfl, rfl, rfl, rfl, trivial⟩ ?_
          exact ih_ (nS - (i + 1)) (by omega) (i + 1) rfl (by omega)
        · refine r_iload_n (pc2 := 43) d_St_firstTill_42 rfl rfl ?_
          refine r_istore_n (pc2 := 44) d_St_firstTill_43 rfl rfl (Nat.le_of_ble_eq_true rfl) ?_
          refine q_iinc (b := 1) (pc2 := 47) d_St_firstTill_44 rfl rfl (by decide) (Nat.le_of_ble_eq_true rfl) ?_
          refine r_goto (tgt := 4) d_St_firstTill_47 rfl ?_
          rw [show nI i = vo (bestI G t (i + 1)) from by rw [bestI_y hbi (by omega) (by omega)]; rfl]
          refine Run.sub (l2 := [(0, .ref 6), (1, .int t), (2, .int (vo (bestI G t (i + 1)))), (3, .int (nI (i + 1)))]) ⟨rfl, rfl, rfl, rfl, trivial⟩ ?_
          exact ih_ (nS - (i + 1)) (by omega) (i + 1) rfl (by omega)
theorem c_St_firstTill_0 {d : Nat} {J : Nat → Nat → Int32} {R : Nat → Nat → Option Nat} {L : Nat → Nat → Int64} {sh : Nat → Nat × Nat} {N : Nat} (hS : ShOK sh) (hR : RfOK R) {tK tF tC tS : Nat → Int32} {nt : Nat} {G : Nat → Int32} {nP nF nS : Nat} (hS24 : nS ≤ 24) (hD : DR tK tF tC tS J R sh nt 0 G nP nF nS) {t : Int32} : Me mi_St_firstTill d 0 0 [.ref 6, .int t] (J, R, L, sh, N) (some (.int (vo (bestI G t nS)))) (J, R, L, sh, N) := by
  refine Mt.of pn_St (Nat.le_of_ble_eq_true rfl) ?_
  show Run mi_St_firstTill d 0 0 0 [(0, .ref 6), (1, .int t)] [] (J, R, L, sh, N) _
  refine r_iconst (v := (-1 : Int32)) (pc2 := 1) d_St_firstTill_0 rfl (by decide) ?_
  refine r_istore_n (pc2 := 2) d_St_firstTill_1 rfl rfl (Nat.le_of_ble_eq_true rfl) ?_
  refine r_iconst (v := nI 0) (pc2 := 3) d_St_firstTill_2 rfl (by decide) ?_
  refine r_istore_n (pc2 := 4) d_St_firstTill_3 rfl rfl (Nat.le_of_ble_eq_true rfl) ?_
  refine Run.sub (l2 := [(0, .ref 6), (1, .int t), (2, .int ((-1 : Int32))), (3, .int (nI 0))]) ⟨rfl, rfl, rfl, rfl, trivial⟩ ?_
  exact l_St_firstTill_0 hS hR hS24 hD (t := t) ⟨rfl, rfl⟩ _ 0 rfl (Nat.zero_le _)
theorem c_St_takeFrom_00 {d : Nat} {J : Nat → Nat → Int32} {R : Nat → Nat → Option Nat} {L : Nat → Nat → Int64} {sh : Nat → Nat × Nat} {N : Nat} (hS : ShOK sh) (hR : RfOK R) {p q : Nat} (hp : p < 24) (hq : q < 24) : Mt mi_St_takeFrom d 0 0 [.ref 6, .ref 6, .int (nI p), .int (nI q)] (J, R, L, sh, N) (fun x h2 => x = none ∧ ∃ K, h2 = (K, R, L, sh, N) ∧ K = tk5 J 7 7 p q) := by
  refine Mt.of pn_St (Nat.le_of_ble_eq_true rfl) ?_
  show Run mi_St_takeFrom d 0 0 0 [(0, .ref 6), (1, .ref 6), (2, .int (nI p)), (3, .int (nI q))] [] (J, R, L, sh, N) _
  refine r_aload_n (x := some 6) (pc2 := 1) d_St_takeFrom_0 rfl rfl ?_
  refine q_getR (x := some 7) (pc2 := 4) d_St_takeFrom_1 rfl k_St_9 rfl (sh_6 hS) (rf_6_0 hR) ?_
  refine r_iload_n (pc2 := 5) d_St_takeFrom_4 rfl rfl ?_
  refine r_aload_n (x := some 6) (pc2 := 6) d_St_takeFrom_5 rfl rfl ?_
  refine q_getR (x := some 7) (pc2 := 9) d_St_takeFrom_6 rfl k_St_9 rfl (sh_6 hS) (rf_6_0 hR) ?_
  refine r_iload_n (pc2 := 10) d_St_takeFrom_9 rfl rfl ?_
  refine q_iaload (q := p) (x := J 7 p) (pc2 := 11) d_St_takeFrom_10 rfl (sh_7 hS) (nI_toInt (by omega)) (by omega) rfl ?_
  refine q_iastore (q := q) (pc2 := 12) d_St_takeFrom_11 rfl (sh_7 hS) (nI_toInt (by omega)) (by omega) (fun I1 hI1 => ?_)
  refine r_aload_n (x := some 6) (pc2 := 13) d_St_takeFrom_12 rfl rfl ?_
  refine q_getR (x := some 8) (pc2 := 16) d_St_takeFrom_13 rfl k_St_15 rfl (sh_6 hS) (rf_6_1 hR) ?_
  refine r_iload_n (pc2 := 17) d_St_takeFrom_16 rfl rfl ?_
  refine r_aload_n (x := some 6) (pc2 := 18) d_St_takeFrom_17 rfl rfl ?_
  refine q_getR (x := some 8) (pc2 := 21) d_St_takeFrom_18 rfl k_St_15 rfl (sh_6 hS) (rf_6_1 hR) ?_
  refine r_iload_n (pc2 := 22) d_St_takeFrom_21 rfl rfl ?_
  refine q_iaload (q := p) (x := J 8 p) (pc2 := 23) d_St_takeFrom_22 rfl (sh_8 hS) (nI_toInt (by omega)) (by omega) (rd_ne hI1 (by decide)) ?_
  refine q_iastore (q := q) (pc2 := 24) d_St_takeFrom_23 rfl (sh_8 hS) (nI_toInt (by omega)) (by omega) (fun I2 hI2 => ?_)
  refine r_aload_n (x := some 6) (pc2 := 25) d_St_takeFrom_24 rfl rfl ?_
  refine q_getR (x := some 9) (pc2 := 28) d_St_takeFrom_25 rfl k_St_18 rfl (sh_6 hS) (rf_6_2 hR) ?_
  refine r_iload_n (pc2 := 29) d_St_takeFrom_28 rfl rfl ?_
  refine r_aload_n (x := some 6) (pc2 := 30) d_St_takeFrom_29 rfl rfl ?_
  refine q_getR (x := some 9) (pc2 := 33) d_St_takeFrom_30 rfl k_St_18 rfl (sh_6 hS) (rf_6_2 hR) ?_
  refine r_iload_n (pc2 := 34) d_St_takeFrom_33 rfl rfl ?_
  refine q_iaload (q := p) (x := J 9 p) (pc2 := 35) d_St_takeFrom_34 rfl (sh_9 hS) (nI_toInt (by omega)) (by omega) ((rd_ne hI2 (by decide)).trans (rd_ne hI1 (by decide))) ?_
  refine q_iastore (q := q) (pc2 := 36) d_St_takeFrom_35 rfl (sh_9 hS) (nI_toInt (by omega)) (by omega) (fun I3 hI3 => ?_)
  refine r_aload_n (x := some 6) (pc2 := 37) d_St_takeFrom_36 rfl rfl ?_
  refine q_getR (x := some 10) (pc2 := 40) d_St_takeFrom_37 rfl k_St_21 rfl (sh_6 hS) (rf_6_3 hR) ?_
  refine r_iload_n (pc2 := 41) d_St_takeFrom_40 rfl rfl ?_
  refine r_aload_n (x := some 6) (pc2 := 42) d_St_takeFrom_41 rfl rfl ?_
  refine q_getR (x := some 10) (pc2 := 45) d_St_takeFrom_42 rfl k_St_21 rfl (sh_6 hS) (rf_6_3 hR) ?_
  refine r_iload_n (pc2 := 46) d_St_takeFrom_45 rfl rfl ?_
  refine q_iaload (q := p) (x := J 10 p) (pc2 := 47) d_St_takeFrom_46 rfl (sh_10 hS) (nI_toInt (by omega)) (by omega) ((rd_ne hI3 (by decide)).trans ((rd_ne hI2 (by decide)).trans (rd_ne hI1 (by decide)))) ?_
  refine q_iastore (q := q) (pc2 := 48) d_St_takeFrom_47 rfl (sh_10 hS) (nI_toInt (by omega)) (by omega) (fun I4 hI4 => ?_)
  refine r_aload_n (x := some 6) (pc2 := 49) d_St_takeFrom_48 rfl rfl ?_
  refine q_getR (x := some 11) (pc2 := 52) d_St_takeFrom_49 rfl k_St_24 rfl (sh_6 hS) (rf_6_4 hR) ?_
  refine r_iload_n (pc2 := 53) d_St_takeFrom_52 rfl rfl ?_
  refine r_aload_n (x := some 6) (pc2 := 54) d_St_takeFrom_53 rfl rfl ?_
  refine q_getR (x := some 11) (pc2 := 57) d_St_takeFrom_54 rfl k_St_24 rfl (sh_6 hS) (rf_6_4 hR) ?_
  refine r_iload_n (pc2 := 58) d_St_takeFrom_57 rfl rfl ?_
  refine q_iaload (q := p) (x := J 11 p) (pc2 := 59) d_St_takeFrom_58 rfl (sh_11 hS) (nI_toInt (by omega)) (by omega) ((rd_ne hI4 (by decide)).trans ((rd_ne hI3 (by decide)).trans ((rd_ne hI2 (by decide)).trans (rd_ne hI1 (by decide))))) ?_
  refine q_iastore (q := q) (pc2 := 60) d_St_takeFrom_59 rfl (sh_11 hS) (nI_toInt (by omega)) (by omega) (fun I5 hI5 => ?_)
  refine Run.ret none d_St_takeFrom_60 rfl ?_
  exact ⟨rfl, _, rfl, tk5_eq 7 7 hI1 hI2 hI3 hI4 hI5⟩
theorem l_St_remove_0 {d : Nat} {J : Nat → Nat → Int32} {R : Nat → Nat → Option Nat} {L : Nat → Nat → Int64} {sh : Nat → Nat × Nat} {N : Nat} (hS : ShOK sh) (hR : RfOK R) {nS p : Nat} (hn : J 6 5 = nI nS) (hn24 : nS ≤ 24) (hp : p < nS) (hd : 1 ≤ d) {Q : Option Value → HS → Prop} (hq : ∀ K, K = u2 (st5 J 7 p (nS - 1)) 6 5 (nI (nS - 1)) → Q none (K, R, L, sh, N)) : ∀ (n_ : Nat) (i : Nat) (J1 : Nat → Nat → Int32), nS - i = n_ → (J1 = st5 J 7 p i) → (p ≤ i ∧ i < nS) → Run mi_St_remove d 0 0 2 [(0, .ref 6), (1, .int (nI p)), (2, .int (nI i))] [] (J1, R, L, sh, N) Q := by
  intro n_
  induction n_ using Nat.strongRecOn with | ind n_ ih_ => ?_
  intro i J1 hn_ v0_ v1_
  have hn1 : J1 6 5 = nI nS := by rw [v0_, st5_o (by omega)]; exact hn
  refine r_iload_n (pc2 := 3) d_St_remove_2 rfl rfl ?_
  refine r_iconst (v := nI 1) (pc2 := 4) d_St_remove_3 rfl (by decide) ?_
  refine q_iaddN (pc2 := 5) d_St_remove_4 rfl ?_
  refine r_aload_n (x := some 6) (pc2 := 6) d_St_remove_5 rfl rfl ?_
  refine q_getI (x := nI nS) (pc2 := 9) d_St_remove_6 rfl k_St_27 (by decide) (sh_6 hS) hn1 ?_
  refine q_icmp_ge (tgt := 27) (A := ((i + 1 : Nat) : Int)) (B := ((nS : Nat) : Int)) (pc2 := 12) d_St_remove_9 rfl rfl (nI_toInt (by omega)) (nI_toInt (by omega)) (fun c1 => ?_) (fun c1 => ?_)
  · refine r_aload_n (x := some 6) (pc2 := 28) d_St_remove_27 rfl rfl ?_
    refine r_dup (pc2 := 29) d_St_remove_28 rfl rfl ?_
    refine q_getI (x := nI nS) (pc2 := 32) d_St_remove_29 rfl k_St_27 (by decide) (sh_6 hS) hn1 ?_
    refine r_iconst (v := nI 1) (pc2 := 33) d_St_remove_32 rfl (by decide) ?_
    refine q_isubN (pc2 := 34) d_St_remove_33 rfl (by omega) ?_
    refine q_putI (pc2 := 37) d_St_remove_34 rfl k_St_27 (Or.inl rfl) (sh_6 hS) (Or.inl rfl) (fun I2 hI2 => ?_)
    refine Run.ret none d_St_remove_37 rfl ?_
    exact hq _ (by rw [hI2, v0_, show i = nS - 1 by omega])
  · refine r_aload_n (x := some 6) (pc2 := 13) d_St_remove_12 rfl rfl ?_
    refine r_aload_n (x := some 6) (pc2 := 14) d_St_remove_13 rfl rfl ?_
    refine r_iload_n (pc2 := 15) d_St_remove_14 rfl rfl ?_
    refine r_iconst (v := nI 1) (pc2 := 16) d_St_remove_15 rfl (by decide) ?_
    refine q_iaddN (pc2 := 17) d_St_remove_16 rfl ?_
    refine r_iload_n (pc2 := 18) d_St_remove_17 rfl rfl ?_
    refine r_callv (M2 := mi_St_takeFrom) (pc2 := 21) d_St_remove_18 rfl k_St_31 cm_St_takeFrom cv_St_takeFrom (sh_6 hS) (by decide) rfl rfl rfl (Nat.le_of_ble_eq_true rfl) (c_St_takeFrom_00 (J := J1) hS hR (p := i + 1) (q := i) (by omega) (by omega)) (d2 := d - 1) (by omega) (Nat.le_of_eq (Nat.zero_add _)) (Nat.le_of_eq (Nat.zero_add _)) (fun r2 h2 hq2 => ?_)
    obtain ⟨rfl, K3, rfl, hK3⟩ := hq2
    change Run _ _ _ _ _ _ [] _ _
    refine q_iinc (b := 1) (pc2 := 24) d_St_remove_21 rfl rfl (by decide) (Nat.le_of_ble_eq_true rfl) ?_
    refine r_goto (tgt := 2) d_St_remove_24 rfl ?_
    refine Run.sub (l2 := [(0, .ref 6), (1, .int (nI p)), (2, .int (nI (i + 1)))]) ⟨rfl, rfl, rfl, trivial⟩ ?_
    exact ih_ (nS - (i + 1)) (by omega) (i + 1) K3 rfl (by rw [hK3, v0_, st5_s v1_.1]) (by omega)
theorem c_St_remove_0 {d : Nat} {J : Nat → Nat → Int32} {R : Nat → Nat → Option Nat} {L : Nat → Nat → Int64} {sh : Nat → Nat × Nat} {N : Nat} (hS : ShOK sh) (hR : RfOK R) {nS p : Nat} (hn : J 6 5 = nI nS) (hn24 : nS ≤ 24) (hp : p < nS) (hd : 1 ≤ d) : Mt mi_St_remove d 0 0 [.ref 6, .int (nI p)] (J, R, L, sh, N) (fun x h2 => x = none ∧ ∃ K, h2 = (K, R, L, sh, N) ∧ K = u2 (st5 J 7 p (nS - 1)) 6 5 (nI (nS - 1))) := by
  refine Mt.of pn_St (Nat.le_of_ble_eq_true rfl) ?_
  show Run mi_St_remove d 0 0 0 [(0, .ref 6), (1, .int (nI p))] [] (J, R, L, sh, N) _
  refine r_iload_n (pc2 := 1) d_St_remove_0 rfl rfl ?_
  refine r_istore_n (pc2 := 2) d_St_remove_1 rfl rfl (Nat.le_of_ble_eq_true rfl) ?_
  refine Run.sub (l2 := [(0, .ref 6), (1, .int (nI p)), (2, .int (nI p))]) ⟨rfl, rfl, rfl, trivial⟩ ?_
  exact l_St_remove_0 hS hR hn hn24 hp hd (fun K hK => ⟨rfl, K, rfl, hK⟩) _ p J rfl st5_0.symm ⟨Nat.le_refl _, hp⟩
theorem l_St_firstTill_2 {d : Nat} {J : Nat → Nat → Int32} {R : Nat → Nat → Option Nat} {L : Nat → Nat → Int64} {sh : Nat → Nat × Nat} {N : Nat} (hS : ShOK sh) (hR : RfOK R) {tK tF tC tS : Nat → Int32} {nt : Nat} {G : Nat → Int32} {nP nF nS : Nat} (hS24 : nS ≤ 24) (hD : DR tK tF tC tS J R sh nt 2 G nP nF nS) {t : Int32} {Q : Option Value → HS → Prop} (hq : Q (some (.int (vo (bestI G t nS)))) (J, R, L, sh, N)) : ∀ (n_ : Nat) (i : Nat), nS - i = n_ → (i ≤ nS) → Run mi_St_firstTill d 0 0 4 [(0, .ref 484), (1, .int t), (2, .int (vo (bestI G t i))), (3, .int (nI i))] [] (J, R, L, sh, N) Q := by
  intro n_
  induction n_ using Nat.strongRecOn with | ind n_ ih_ => ?_
  intro i hn_ v0_
  refine r_iload_n (pc2 := 5) d_St_firstTill_4 rfl rfl ?_
  refine r_aload_n (x := some 484) (pc2 := 6) d_St_firstTill_5 rfl rfl ?_
  refine q_getI (x := nI nS) (pc2 := 9) d_St_firstTill_6 rfl k_St_27 (by decide) (sh_484 hS) hD.1.2.2.2.2.2 ?_
  refine q_icmp_ge (tgt := 50) (A := ((i : Nat) : Int)) (B := ((nS : Nat) : Int)) (pc2 := 12) d_St_firstTill_9 rfl rfl (nI_toInt (by omega)) (nI_toInt (by omega)) (fun c1 => ?_) (fun c1 => ?_)
  · refine r_iload_n (pc2 := 51) d_St_firstTill_50 rfl rfl ?_
    refine Run.ret (some (.int (vo (bestI G t i)))) d_St_firstTill_51 ⟨_, rfl⟩ ?_
    rw [show i = nS by omega]; exact hq
  · refine r_aload_n (x := some 484) (pc2 := 13) d_St_firstTill_12 rfl rfl ?_
    refine q_getR (x := some 485) (pc2 := 16) d_St_firstTill_13 rfl k_St_9 rfl (sh_484 hS) (rf_484_0 hR) ?_
    refine r_iload_n (pc2 := 17) d_St_firstTill_16 rfl rfl ?_
    refine q_iaload (q := i) (x := G (54 + 5 * i)) (pc2 := 18) d_St_firstTill_17 rfl (sh_485 hS) (nI_toInt (by omega)) (by omega) ((hD.2.2.1 i (by omega)).1) ?_
    refine r_iload_n (pc2 := 19) d_St_firstTill_18 rfl rfl ?_
    refine q_icmp_gt (tgt := 44) (A := (G (54 + 5 * i)).toInt) (B := t.toInt) (pc2 := 22) d_St_firstTill_19 rfl rfl (rfl) (rfl) (fun c2 => ?_) (fun c2 => ?_)
    · refine q_iinc (b := 1) (pc2 := 47) d_St_firstTill_44 rfl rfl (by decide) (Nat.le_of_ble_eq_true rfl) ?_
      refine r_goto (tgt := 4) d_St_firstTill_47 rfl ?_
      rw [show vo (bestI G t i) = vo (bestI G t (i + 1)) from by rw [bestI_gt (by omega)]]
      refine Run.sub (l2 := [(0, .ref 484), (1, .int t), (2, .int (vo (bestI G t (i + 1)))), (3, .int (nI (i + 1)))]) ⟨rfl, rfl, rfl, rfl, trivial⟩ ?_
      exact ih_ (nS - (i + 1)) (by omega) (i + 1) rfl (by omega)
    · cases hbi : bestI G t i with
      | none =>
        refine r_iload_n (pc2 := 23) d_St_firstTill_22 rfl rfl ?_
        refine r_iconst (v := (-1 : Int32)) (pc2 := 24) d_St_firstTill_23 rfl (by decide) ?_
        refine q_icmp_eq (tgt := 42) (A := (-1 : Int)) (B := (-1 : Int)) (pc2 := 27) d_St_firstTill_24 rfl rfl (by decide) (by decide) (fun c3 => ?_) (fun c3 => ?_)
        rotate_left
        · exfalso; omega
        refine r_iload_n (pc2 := 43) d_St_firstTill_42 rfl rfl ?_
        refine r_istore_n (pc2 := 44) d_St_firstTill_43 rfl rfl (Nat.le_of_ble_eq_true rfl) ?_
        refine q_iinc (b := 1) (pc2 := 47) d_St_firstTill_44 rfl rfl (by decide) (Nat.le_of_ble_eq_true rfl) ?_
        refine r_goto (tgt := 4) d_St_firstTill_47 rfl ?_
        rw [show nI i = vo (bestI G t (i + 1)) from by rw [bestI_n hbi (by omega)]; rfl]
        refine Run.sub (l2 := [(0, .ref 484), (1, .int t), (2, .int (vo (bestI G t (i + 1)))), (3, .int (nI (i + 1)))]) ⟨rfl, rfl, rfl, rfl, trivial⟩ ?_
        exact ih_ (nS - (i + 1)) (by omega) (i + 1) rfl (by omega)
      | some b =>
        have hbl := bestI_lt hbi
        refine r_iload_n (pc2 := 23) d_St_firstTill_22 rfl rfl ?_
        refine r_iconst (v := (-1 : Int32)) (pc2 := 24) d_St_firstTill_23 rfl (by decide) ?_
        refine q_icmp_eq (tgt := 42) (A := ((b : Nat) : Int)) (B := (-1 : Int)) (pc2 := 27) d_St_firstTill_24 rfl rfl (nI_toInt (by omega)) (by decide) (fun c4 => ?_) (fun c4 => ?_)
        · exfalso; omega
        refine r_aload_n (x := some 484) (pc2 := 28) d_St_firstTill_27 rfl rfl ?_
        refine q_getR (x := some 485) (pc2 := 31) d_St_firstTill_28 rfl k_St_9 rfl (sh_484 hS) (rf_484_0 hR) ?_
        refine r_iload_n (pc2 := 32) d_St_firstTill_31 rfl rfl ?_
        refine q_iaload (q := i) (x := G (54 + 5 * i)) (pc2 := 33) d_St_firstTill_32 rfl (sh_485 hS) (nI_toInt (by omega)) (by omega) ((hD.2.2.1 i (by omega)).1) ?_
        refine r_aload_n (x := some 484) (pc2 := 34) d_St_firstTill_33 rfl rfl ?_
        refine q_getR (x := some 485) (pc2 := 37) d_St_firstTill_34 rfl k_St_9 rfl (sh_484 hS) (rf_484_0 hR) ?_
        refine r_iload_n (pc2 := 38) d_St_firstTill_37 rfl rfl ?_
        refine q_iaload (q := b) (x := G (54 + 5 * b)) (pc2 := 39) d_St_firstTill_38 rfl (sh_485 hS) (nI_toInt (by omega)) (by omega) ((hD.2.2.1 b (by omega)).1) ?_
        refine q_icmp_ge (tgt := 44) (A := (G (54 + 5 * i)).toInt) (B := (G (54 + 5 * b)).toInt) (pc2 := 42) d_St_firstTill_39 rfl rfl (rfl) (rfl) (fun c5 => ?_) (fun c5 => ?_)
        · refine q_iinc (b := 1) (pc2 := 47) d_St_firstTill_44 rfl rfl (by decide) (Nat.le_of_ble_eq_true rfl) ?_
          refine r_goto (tgt := 4) d_St_firstTill_47 rfl ?_
          rw [show vo (some b) = vo (bestI G t (i + 1)) from by rw [bestI_x hbi (by omega)]]
          refine Run.sub (l2 := [(0, .ref 484), (1, .int t), (2, .int (vo (bestI G t (i + 1)))), (3, .int (nI (i + 1)))]) ⟨rfl, rfl, rfl, rfl, trivial⟩ ?_
          exact ih_ (nS - (i + 1)) (by omega) (i + 1) rfl (by omega)
        · refine r_iload_n (pc2 := 43) d_St_firstTill_42 rfl rfl ?_
          refine r_istore_n (pc2 := 44) d_St_firstTill_43 rfl rfl (Nat.le_of_ble_eq_true rfl) ?_
          refine q_iinc (b := 1) (pc2 := 47) d_St_firstTill_44 rfl rfl (by decide) (Nat.le_of_ble_eq_true rfl) ?_
          refine r_goto (tgt := 4) d_St_firstTill_47 rfl ?_
          rw [show nI i = vo (bestI G t (i + 1)) from by rw [bestI_y hbi (by omega) (by omega)]; rfl]
          refine Run.sub (l2 := [(0, .ref 484), (1, .int t), (2, .int (vo (bestI G t (i + 1)))), (3, .int (nI (i + 1)))]) ⟨rfl, rfl, rfl, rfl, trivial⟩ ?_
          exact ih_ (nS - (i + 1)) (by omega) (i + 1) rfl (by omega)
theorem c_St_firstTill_2 {d : Nat} {J : Nat → Nat → Int32} {R : Nat → Nat → Option Nat} {L : Nat → Nat → Int64} {sh : Nat → Nat × Nat} {N : Nat} (hS : ShOK sh) (hR : RfOK R) {tK tF tC tS : Nat → Int32} {nt : Nat} {G : Nat → Int32} {nP nF nS : Nat} (hS24 : nS ≤ 24) (hD : DR tK tF tC tS J R sh nt 2 G nP nF nS) {t : Int32} : Me mi_St_firstTill d 0 0 [.ref 484, .int t] (J, R, L, sh, N) (some (.int (vo (bestI G t nS)))) (J, R, L, sh, N) := by
  refine Mt.of pn_St (Nat.le_of_ble_eq_true rfl) ?_
  show Run mi_St_firstTill d 0 0 0 [(0, .ref 484), (1, .int t)] [] (J, R, L, sh, N) _
  refine r_iconst (v := (-1 : Int32)) (pc2 := 1) d_St_firstTill_0 rfl (by decide) ?_
  refine r_istore_n (pc2 := 2) d_St_firstTill_1 rfl rfl (Nat.le_of_ble_eq_true rfl) ?_
  refine r_iconst (v := nI 0) (pc2 := 3) d_St_firstTill_2 rfl (by decide) ?_
  refine r_istore_n (pc2 := 4) d_St_firstTill_3 rfl rfl (Nat.le_of_ble_eq_true rfl) ?_
  refine Run.sub (l2 := [(0, .ref 484), (1, .int t), (2, .int ((-1 : Int32))), (3, .int (nI 0))]) ⟨rfl, rfl, rfl, rfl, trivial⟩ ?_
  exact l_St_firstTill_2 hS hR hS24 hD (t := t) ⟨rfl, rfl⟩ _ 0 rfl (Nat.zero_le _)
theorem c_St_takeFrom_22 {d : Nat} {J : Nat → Nat → Int32} {R : Nat → Nat → Option Nat} {L : Nat → Nat → Int64} {sh : Nat → Nat × Nat} {N : Nat} (hS : ShOK sh) (hR : RfOK R) {p q : Nat} (hp : p < 24) (hq : q < 24) : Mt mi_St_takeFrom d 0 0 [.ref 484, .ref 484, .int (nI p), .int (nI q)] (J, R, L, sh, N) (fun x h2 => x = none ∧ ∃ K, h2 = (K, R, L, sh, N) ∧ K = tk5 J 485 485 p q) := by
  refine Mt.of pn_St (Nat.le_of_ble_eq_true rfl) ?_
  show Run mi_St_takeFrom d 0 0 0 [(0, .ref 484), (1, .ref 484), (2, .int (nI p)), (3, .int (nI q))] [] (J, R, L, sh, N) _
  refine r_aload_n (x := some 484) (pc2 := 1) d_St_takeFrom_0 rfl rfl ?_
  refine q_getR (x := some 485) (pc2 := 4) d_St_takeFrom_1 rfl k_St_9 rfl (sh_484 hS) (rf_484_0 hR) ?_
  refine r_iload_n (pc2 := 5) d_St_takeFrom_4 rfl rfl ?_
  refine r_aload_n (x := some 484) (pc2 := 6) d_St_takeFrom_5 rfl rfl ?_
  refine q_getR (x := some 485) (pc2 := 9) d_St_takeFrom_6 rfl k_St_9 rfl (sh_484 hS) (rf_484_0 hR) ?_
  refine r_iload_n (pc2 := 10) d_St_takeFrom_9 rfl rfl ?_
  refine q_iaload (q := p) (x := J 485 p) (pc2 := 11) d_St_takeFrom_10 rfl (sh_485 hS) (nI_toInt (by omega)) (by omega) rfl ?_
  refine q_iastore (q := q) (pc2 := 12) d_St_takeFrom_11 rfl (sh_485 hS) (nI_toInt (by omega)) (by omega) (fun I1 hI1 => ?_)
  refine r_aload_n (x := some 484) (pc2 := 13) d_St_takeFrom_12 rfl rfl ?_
  refine q_getR (x := some 486) (pc2 := 16) d_St_takeFrom_13 rfl k_St_15 rfl (sh_484 hS) (rf_484_1 hR) ?_
  refine r_iload_n (pc2 := 17) d_St_takeFrom_16 rfl rfl ?_
  refine r_aload_n (x := some 484) (pc2 := 18) d_St_takeFrom_17 rfl rfl ?_
  refine q_getR (x := some 486) (pc2 := 21) d_St_takeFrom_18 rfl k_St_15 rfl (sh_484 hS) (rf_484_1 hR) ?_
  refine r_iload_n (pc2 := 22) d_St_takeFrom_21 rfl rfl ?_
  refine q_iaload (q := p) (x := J 486 p) (pc2 := 23) d_St_takeFrom_22 rfl (sh_486 hS) (nI_toInt (by omega)) (by omega) (rd_ne hI1 (by decide)) ?_
  refine q_iastore (q := q) (pc2 := 24) d_St_takeFrom_23 rfl (sh_486 hS) (nI_toInt (by omega)) (by omega) (fun I2 hI2 => ?_)
  refine r_aload_n (x := some 484) (pc2 := 25) d_St_takeFrom_24 rfl rfl ?_
  refine q_getR (x := some 487) (pc2 := 28) d_St_takeFrom_25 rfl k_St_18 rfl (sh_484 hS) (rf_484_2 hR) ?_
  refine r_iload_n (pc2 := 29) d_St_takeFrom_28 rfl rfl ?_
  refine r_aload_n (x := some 484) (pc2 := 30) d_St_takeFrom_29 rfl rfl ?_
  refine q_getR (x := some 487) (pc2 := 33) d_St_takeFrom_30 rfl k_St_18 rfl (sh_484 hS) (rf_484_2 hR) ?_
  refine r_iload_n (pc2 := 34) d_St_takeFrom_33 rfl rfl ?_
  refine q_iaload (q := p) (x := J 487 p) (pc2 := 35) d_St_takeFrom_34 rfl (sh_487 hS) (nI_toInt (by omega)) (by omega) ((rd_ne hI2 (by decide)).trans (rd_ne hI1 (by decide))) ?_
  refine q_iastore (q := q) (pc2 := 36) d_St_takeFrom_35 rfl (sh_487 hS) (nI_toInt (by omega)) (by omega) (fun I3 hI3 => ?_)
  refine r_aload_n (x := some 484) (pc2 := 37) d_St_takeFrom_36 rfl rfl ?_
  refine q_getR (x := some 488) (pc2 := 40) d_St_takeFrom_37 rfl k_St_21 rfl (sh_484 hS) (rf_484_3 hR) ?_
  refine r_iload_n (pc2 := 41) d_St_takeFrom_40 rfl rfl ?_
  refine r_aload_n (x := some 484) (pc2 := 42) d_St_takeFrom_41 rfl rfl ?_
  refine q_getR (x := some 488) (pc2 := 45) d_St_takeFrom_42 rfl k_St_21 rfl (sh_484 hS) (rf_484_3 hR) ?_
  refine r_iload_n (pc2 := 46) d_St_takeFrom_45 rfl rfl ?_
  refine q_iaload (q := p) (x := J 488 p) (pc2 := 47) d_St_takeFrom_46 rfl (sh_488 hS) (nI_toInt (by omega)) (by omega) ((rd_ne hI3 (by decide)).trans ((rd_ne hI2 (by decide)).trans (rd_ne hI1 (by decide)))) ?_
  refine q_iastore (q := q) (pc2 := 48) d_St_takeFrom_47 rfl (sh_488 hS) (nI_toInt (by omega)) (by omega) (fun I4 hI4 => ?_)
  refine r_aload_n (x := some 484) (pc2 := 49) d_St_takeFrom_48 rfl rfl ?_
  refine q_getR (x := some 489) (pc2 := 52) d_St_takeFrom_49 rfl k_St_24 rfl (sh_484 hS) (rf_484_4 hR) ?_
  refine r_iload_n (pc2 := 53) d_St_takeFrom_52 rfl rfl ?_
  refine r_aload_n (x := some 484) (pc2 := 54) d_St_takeFrom_53 rfl rfl ?_
  refine q_getR (x := some 489) (pc2 := 57) d_St_takeFrom_54 rfl k_St_24 rfl (sh_484 hS) (rf_484_4 hR) ?_
  refine r_iload_n (pc2 := 58) d_St_takeFrom_57 rfl rfl ?_
  refine q_iaload (q := p) (x := J 489 p) (pc2 := 59) d_St_takeFrom_58 rfl (sh_489 hS) (nI_toInt (by omega)) (by omega) ((rd_ne hI4 (by decide)).trans ((rd_ne hI3 (by decide)).trans ((rd_ne hI2 (by decide)).trans (rd_ne hI1 (by decide))))) ?_
  refine q_iastore (q := q) (pc2 := 60) d_St_takeFrom_59 rfl (sh_489 hS) (nI_toInt (by omega)) (by omega) (fun I5 hI5 => ?_)
  refine Run.ret none d_St_takeFrom_60 rfl ?_
  exact ⟨rfl, _, rfl, tk5_eq 485 485 hI1 hI2 hI3 hI4 hI5⟩
theorem l_St_remove_2 {d : Nat} {J : Nat → Nat → Int32} {R : Nat → Nat → Option Nat} {L : Nat → Nat → Int64} {sh : Nat → Nat × Nat} {N : Nat} (hS : ShOK sh) (hR : RfOK R) {nS p : Nat} (hn : J 484 5 = nI nS) (hn24 : nS ≤ 24) (hp : p < nS) (hd : 1 ≤ d) {Q : Option Value → HS → Prop} (hq : ∀ K, K = u2 (st5 J 485 p (nS - 1)) 484 5 (nI (nS - 1)) → Q none (K, R, L, sh, N)) : ∀ (n_ : Nat) (i : Nat) (J1 : Nat → Nat → Int32), nS - i = n_ → (J1 = st5 J 485 p i) → (p ≤ i ∧ i < nS) → Run mi_St_remove d 0 0 2 [(0, .ref 484), (1, .int (nI p)), (2, .int (nI i))] [] (J1, R, L, sh, N) Q := by
  intro n_
  induction n_ using Nat.strongRecOn with | ind n_ ih_ => ?_
  intro i J1 hn_ v0_ v1_
  have hn1 : J1 484 5 = nI nS := by rw [v0_, st5_o (by omega)]; exact hn
  refine r_iload_n (pc2 := 3) d_St_remove_2 rfl rfl ?_
  refine r_iconst (v := nI 1) (pc2 := 4) d_St_remove_3 rfl (by decide) ?_
  refine q_iaddN (pc2 := 5) d_St_remove_4 rfl ?_
  refine r_aload_n (x := some 484) (pc2 := 6) d_St_remove_5 rfl rfl ?_
  refine q_getI (x := nI nS) (pc2 := 9) d_St_remove_6 rfl k_St_27 (by decide) (sh_484 hS) hn1 ?_
  refine q_icmp_ge (tgt := 27) (A := ((i + 1 : Nat) : Int)) (B := ((nS : Nat) : Int)) (pc2 := 12) d_St_remove_9 rfl rfl (nI_toInt (by omega)) (nI_toInt (by omega)) (fun c1 => ?_) (fun c1 => ?_)
  · refine r_aload_n (x := some 484) (pc2 := 28) d_St_remove_27 rfl rfl ?_
    refine r_dup (pc2 := 29) d_St_remove_28 rfl rfl ?_
    refine q_getI (x := nI nS) (pc2 := 32) d_St_remove_29 rfl k_St_27 (by decide) (sh_484 hS) hn1 ?_
    refine r_iconst (v := nI 1) (pc2 := 33) d_St_remove_32 rfl (by decide) ?_
    refine q_isubN (pc2 := 34) d_St_remove_33 rfl (by omega) ?_
    refine q_putI (pc2 := 37) d_St_remove_34 rfl k_St_27 (Or.inl rfl) (sh_484 hS) (Or.inl rfl) (fun I2 hI2 => ?_)
    refine Run.ret none d_St_remove_37 rfl ?_
    exact hq _ (by rw [hI2, v0_, show i = nS - 1 by omega])
  · refine r_aload_n (x := some 484) (pc2 := 13) d_St_remove_12 rfl rfl ?_
    refine r_aload_n (x := some 484) (pc2 := 14) d_St_remove_13 rfl rfl ?_
    refine r_iload_n (pc2 := 15) d_St_remove_14 rfl rfl ?_
    refine r_iconst (v := nI 1) (pc2 := 16) d_St_remove_15 rfl (by decide) ?_
    refine q_iaddN (pc2 := 17) d_St_remove_16 rfl ?_
    refine r_iload_n (pc2 := 18) d_St_remove_17 rfl rfl ?_
    refine r_callv (M2 := mi_St_takeFrom) (pc2 := 21) d_St_remove_18 rfl k_St_31 cm_St_takeFrom cv_St_takeFrom (sh_484 hS) (by decide) rfl rfl rfl (Nat.le_of_ble_eq_true rfl) (c_St_takeFrom_22 (J := J1) hS hR (p := i + 1) (q := i) (by omega) (by omega)) (d2 := d - 1) (by omega) (Nat.le_of_eq (Nat.zero_add _)) (Nat.le_of_eq (Nat.zero_add _)) (fun r2 h2 hq2 => ?_)
    obtain ⟨rfl, K3, rfl, hK3⟩ := hq2
    change Run _ _ _ _ _ _ [] _ _
    refine q_iinc (b := 1) (pc2 := 24) d_St_remove_21 rfl rfl (by decide) (Nat.le_of_ble_eq_true rfl) ?_
    refine r_goto (tgt := 2) d_St_remove_24 rfl ?_
    refine Run.sub (l2 := [(0, .ref 484), (1, .int (nI p)), (2, .int (nI (i + 1)))]) ⟨rfl, rfl, rfl, trivial⟩ ?_
    exact ih_ (nS - (i + 1)) (by omega) (i + 1) K3 rfl (by rw [hK3, v0_, st5_s v1_.1]) (by omega)
theorem c_St_remove_2 {d : Nat} {J : Nat → Nat → Int32} {R : Nat → Nat → Option Nat} {L : Nat → Nat → Int64} {sh : Nat → Nat × Nat} {N : Nat} (hS : ShOK sh) (hR : RfOK R) {nS p : Nat} (hn : J 484 5 = nI nS) (hn24 : nS ≤ 24) (hp : p < nS) (hd : 1 ≤ d) : Mt mi_St_remove d 0 0 [.ref 484, .int (nI p)] (J, R, L, sh, N) (fun x h2 => x = none ∧ ∃ K, h2 = (K, R, L, sh, N) ∧ K = u2 (st5 J 485 p (nS - 1)) 484 5 (nI (nS - 1))) := by
  refine Mt.of pn_St (Nat.le_of_ble_eq_true rfl) ?_
  show Run mi_St_remove d 0 0 0 [(0, .ref 484), (1, .int (nI p))] [] (J, R, L, sh, N) _
  refine r_iload_n (pc2 := 1) d_St_remove_0 rfl rfl ?_
  refine r_istore_n (pc2 := 2) d_St_remove_1 rfl rfl (Nat.le_of_ble_eq_true rfl) ?_
  refine Run.sub (l2 := [(0, .ref 484), (1, .int (nI p)), (2, .int (nI p))]) ⟨rfl, rfl, rfl, trivial⟩ ?_
  exact l_St_remove_2 hS hR hn hn24 hp hd (fun K hK => ⟨rfl, K, rfl, hK⟩) _ p J rfl st5_0.symm ⟨Nat.le_refl _, hp⟩
