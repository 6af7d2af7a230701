/-! THE LAW'S CALLS: rule -/
/-- the reference's parser, at its start -/
theorem MS.start {tp nt nk kA fA cA gA : Nat} {T : Nat → Int32} {J K : Nat → Nat → Int32} {R : Nat → Nat → Option Nat} {L : Nat → Nat → Int64} {sh : Nat → Nat × Nat} {N : Nat} (hB : BAS R sh N) (hT : TRf R sh kA fA cA gA nk) (hTn : TNe kA fA cA gA) (hTd : kA ≠ fA ∧ kA ≠ cA ∧ kA ≠ gA ∧ fA ≠ cA ∧ fA ≠ gA ∧ cA ≠ gA) (hk : nt ≤ nk ∧ nk ≤ 3000) (e11 : J 761 11 = nI tp) (e9 : J 761 9 = nI nt) (eT : ∀ j, j < tp → J 770 j = T j) (e : K = u2 J 761 12 (nI 0)) : MS (J, R, L, sh, N) (kA, fA, cA, gA) nt tp T 0 nk [] (kA, fA, cA, gA) (K, R, L, sh, N) := by
  obtain ⟨hS, hR, hN, h7⟩ := hB
  obtain ⟨n1, n2, n3, n4⟩ := id hTn
  refine ⟨⟨(rd_nk e (by decide)).trans e11, rd_eq e, (rd_nk e (by decide)).trans e9⟩, fun j hj => (rd_ne e (by decide)).trans (eT j hj), hT, ⟨hk.1, hk.2⟩, ⟨fun j hj => absurd hj (Nat.not_lt_zero _), fun j hj => absurd hj (Nat.not_lt_zero _)⟩, fun j hj => ⟨rd_ne e (by dsimp only; omega), rd_ne e (by dsimp only; omega), rd_ne e (by dsimp only; omega), rd_ne e (by dsimp only; omega)⟩, ⟨Or.inl rfl, hTd, hTn, hTn⟩, ⟨fun a j _ h2 _ _ _ _ _ => rd_ne e h2, fun j _ h2 _ => rd_nk e h2, fun _ _ _ _ => rfl, fun _ _ _ => rfl, fun _ _ => rfl, Nat.le_refl _, hN, fun a ha => by rw [hN a ha]; decide⟩, hS, hR, h7⟩
/-- refused: the parser has left nodes, no more -/
theorem rule_junk {n tp nt nk nP nF nS kA fA cA gA q jj : Nat} {I J I1 K : Nat → Nat → Int32} {R R1 R2 : Nat → Nat → Option Nat} {L L2 : Nat → Nat → Int64} {sh sh2 : Nat → Nat × Nat} {N N2 : Nat} {T : Nat → Int32} {m : List Nd} {A2 : A4} (h : IVC n tp nt nk nP nF nS kA fA cA gA I R L sh N) (hr : RFS I) (hn : n ≤ 512) (hR : FrXR R R1) (f1 : ∀ a k, ¬ scX sh a → ¬ (a = 0 ∧ k = 9) → a ≠ 744 → J a k = I a k) (f9 : J 0 9 = nI 0) (f4 : ∀ k, J 744 k = if k = jj then I 744 k + nI 1 else I 744 k) (hm : MS (J, R1, L, sh, N) (kA, fA, cA, gA) nt tp T q (gN nk (nt + m.length)) m A2 (I1, R2, L2, sh2, N2)) (hv : NV m) (hl : m.length ≤ tp) (hZ : ZB jj I1 K) : INV (n + 1) (K, R2, L2, sh2, N2) := by
  obtain ⟨z1, z2, z3⟩ := hZ
  have hS := h.1.1
  have hN := h.1.2.2.1
  have h7 := h.1.2.2.2
  have tp250 := h.2.2.1.1.1
  have hc := h.2.2.1.2
  have n14 : ∀ a, a < 781 → (sh a).1 ≠ 14 := fun a ha => ns14 hS ha
  have z1' : ∀ a i, ¬ (a = 761 ∧ i = 11) → a ≠ 765 → a ≠ 762 → K a i = I1 a i := fun a i p1 p2 _ => z1 a i p1 (fun z => p2 z.1)
  have q1 : ∀ a j, (240 ≤ a ∧ a < 479) ∨ a = 730 ∨ (745 ≤ a ∧ a < 781) ∨ (781 ≤ a ∧ a < N ∧ (sh a).1 = 12) → J a j = I a j := fun a j p => by
    have : (sh a).1 ≠ 14 := by
      rcases Nat.lt_or_ge a 781 with y | y
      · exact n14 a y
      · omega
    exact f1 a j (fun z => by unfold scX at z; omega) (by omega) (by omega)
  have x0 : ∀ j, j ≠ 9 → J 0 j = I 0 j := fun j hj => f1 0 j (fun z => by have := n14 0 (by omega); unfold scX at z; omega) (by omega) (by omega)
  obtain ⟨c1, c2, c3, c4, c5, c6, c7, c8, c9, c10, c11, c12, c13, c14, c15, c16⟩ := rule_common h hn (Nat.le_refl N) q1 (x0 3 (by decide)) f9 (fun _ _ => rfl) (fun a j p => hR.1 a j (by omega) (by omega)) (fun _ _ _ _ => rfl) hm rfl hv hl z1' z2
  have hdsk := h.2.2.2.1
  have e2 : ∀ j, K 762 j = I 762 j := fun j => (z1 762 j (by omega) (by omega)).trans ((c16 j).2.trans (q1 762 j (by omega)))
  have d0 := hdsk.gg (G' := K 762) (B' := 1000 * ((n + 1 : Nat) : Int)) (by decide) c3 hN c7 c8 c9 (fun a j p1 p2 => by
    unfold dk at p1 p2
    have := n14 a (by omega)
    exact (c11 a j (by omega) (by omega) (by omega) (by omega) (by omega) (by omega)).trans (f1 a j (fun z => by unfold scX at z; omega) (by omega) (by omega))) (fun a j p1 p2 => by
    unfold dk at p1 p2
    exact (c13 a j (by omega) (by omega)).trans (hR.1 a j (by omega) (by omega))) (fun j _ => e2 j) (by omega)
  refine ⟨K, R2, L2, sh2, N2, 0, nt + m.length, gN nk (nt + m.length), nP, nF, nS, A2.1, A2.2.1, A2.2.2.1, A2.2.2.2, rfl, ⟨c1, c2, ⟨c4, by omega⟩, d0, c5, c6, h.2.2.2.2.2.2.gg hS hN c7 c8 c9 (fun c p1 p2 => ?_)⟩, fun j hj => ?_⟩
  · have := c15 c p1
    rw [p2] at this; exact absurd rfl this
  · rw [c11 744 j (by omega) (by omega) (by omega) (by omega) (by omega) (by omega), f4]
    have e5 : I1 765 j = I 765 j := (c16 j).1.trans (q1 765 j (by omega))
    by_cases y : j = jj
    · subst y
      rw [if_pos rfl, z3, e5, hr j hj]
    · rw [if_neg y, z1 765 j (by omega) (by omega), e5, hr j hj]
/-- done -/
theorem rule_done {n tp nt nk nP nF nS kA fA cA gA q E r : Nat} {I I1 K : Nat → Nat → Int32} {R R2 : Nat → Nat → Option Nat} {L L2 : Nat → Nat → Int64} {sh sh2 : Nat → Nat × Nat} {N N2 : Nat} {T : Nat → Int32} {m : List Nd} {a : Nat ⊕ (Nat × Nat × Nat)} {x : Option Value} {h1 : HS} {A2 : A4} (h : IVC n tp nt nk nP nF nS kA fA cA gA I R L sh N) (hr : RFS I) (hn : n ≤ 512) (hE : E < nF) (b4 : (I 762 (174 + 84 * E + 4)).toInt = (r : Int)) (hr6 : r < 6) (hU : RUD E r m a I R L sh N x h1) (hv : NV m) (hm0 : 0 < m.length) (hm2 : m.length < 250) (hpf : PF m 0 (m.length - 1)) (hln : ln m (m.length - 1) ≤ 250) (ha : aOK a) (hm : MS h1 (kA, fA, cA, gA) nt tp T q (gN nk (nt + m.length)) m A2 (I1, R2, L2, sh2, N2)) (hl : m.length ≤ tp) (hZ : ZD E r nt m.length a I1 K) : INV (n + 1) (K, R2, L2, sh2, N2) := by
  obtain ⟨z1, z2, z3⟩ := hZ
  have hS := h.1.1
  have hN := h.1.2.2.1
  have h7 := h.1.2.2.2
  have tp250 := h.2.2.1.1.1
  have hc := h.2.2.1.2
  have hF12 := h.2.2.2.1.1.1.2.2.2.1
  have hU0 := hU
  obtain ⟨J, R1, L1, sh1, rfl, rfl, hs1, hsh, hL, hR1, hRf, hRn, hJ, hJ9, hJ5, hco, hpa⟩ := hU
  have fl := fe_lt (e := 0) (by decide) (show E < 12 by omega)
  have dk0 : dk 0 = 1 := rfl
  have rl : fe 0 E + 7 + 2 * r = ru 0 E r := by unfold ru; omega
  have q1 : ∀ a j, (240 ≤ a ∧ a < 479) ∨ a = 730 ∨ (745 ≤ a ∧ a < 781) ∨ (781 ≤ a ∧ a < N ∧ (sh a).1 = 12) → J a j = I a j := fun a j p => hJ a j (by omega) (by omega) (by omega) (by omega) (by omega) (by omega)
  have z1' : ∀ a i, ¬ (a = 761 ∧ i = 11) → a ≠ 765 → a ≠ 762 → K a i = I1 a i := fun a i p1 _ p2 => z1 a i p1 p2
  obtain ⟨c1, c2, c3, c4, c5, c6, c7, c8, c9, c10, c11, c12, c13, c14, c15, c16⟩ := rule_common h hn (Nat.le_add_right N 6) q1 (hJ 0 3 (by omega) (by omega) (by omega) (by omega) (by omega) (by omega)) hJ9 hsh (fun a j p => hR1 a j (by omega) (by omega) (by omega)) (fun a j p1 p2 => hL a j (by omega)) hm rfl hv hl z1' z2
  obtain ⟨w1, w2, w3⟩ := h.2.2.2.1
  obtain ⟨J', R1', L1', sh1', y1, y2, -, -, -, -, -, -, -, hD, -⟩ := RUD.dr (nP := nP) (nF := nF) (nS := nS) (G := I 762) h7 hN c3 c10 hv hm0 hm2 ha hE (by omega) (by unfold nRof; rw [b4]; omega) hr6 hU0
  cases y2
  have hD0 := hD w1.1 w1.2.1 w2
  have e2 : K 762 = g_rule1 (I 762) E r nt m.length a := by
    rw [z3, show I1 762 = I 762 from funext fun j => (c16 j).2.trans (q1 762 j (by omega))]
  obtain ⟨g1, g2⟩ := w_rule w1 hE b4 hr6 hm0 (by omega) ha
  have hsh0 : ∀ a, a < 781 → (sh1 a).1 ≠ 14 := fun a ha => by rw [hsh a (by omega)]; exact ns14 hS ha
  have hD1 := DR.gg (J := K) (R' := R2) (sh' := sh2) g1.1 (by decide) (GRW.same (nt := nt + m.length) (K' := K A2.1) (F' := K A2.2.1) (C' := K A2.2.2.1) (S' := K A2.2.2.2) rfl rfl rfl rfl) hs1 c14 c12 (fun a j p1 p2 => c13 a j p2 (by omega)) (fun a j p1 p2 => by
    unfold dk at p1 p2
    exact c11 a j (by omega) (by omega) (by omega) (by omega) (by omega) (by omega)) (fun a j p1 p2 => by
    unfold dk at p1 p2
    exact c13 a j (by omega) (by omega)) hD0
  refine ⟨K, R2, L2, sh2, N2, 0, nt + m.length, gN nk (nt + m.length), nP, nF, nS, A2.1, A2.2.1, A2.2.2.1, A2.2.2.2, rfl, ⟨c1, c2, ⟨c4, by omega⟩, ⟨by rw [e2]; exact g1, by rw [e2]; exact hD1, by rw [e2, g2]; omega⟩, c5, c6, h.2.2.2.2.2.2.gg hS hN c7 c8 c9 (fun c p1 p2 => ?_)⟩, fun j hj => ?_⟩
  · -- the one new condition
    rcases Nat.lt_or_ge c (N + 6) with y | y
    · obtain ⟨⟨s0, s1, s2, s3, s4, s5⟩, k2, k3⟩ := hco
      have ec : c = N := by
        rw [c14 c y] at p2
        rcases (show c = N ∨ c = N + 1 ∨ c = N + 2 ∨ c = N + 3 ∨ c = N + 4 ∨ c = N + 5 by omega) with e | e | e | e | e | e
        · exact e
        · rw [e, s1] at p2; cases p2
        · rw [e, s2] at p2; cases p2
        · rw [e, s3] at p2; cases p2
        · rw [e, s4] at p2; cases p2
        · rw [e, s5] at p2; cases p2
      subst ec
      refine ⟨m, ⟨by rw [c14 c (by omega), c14 (c + 1) (by omega), c14 (c + 2) (by omega), c14 (c + 3) (by omega), c14 (c + 4) (by omega), c14 (c + 5) (by omega)]; exact ⟨s0, s1, s2, s3, s4, s5⟩, by rw [c13 c 0 (by omega) (by omega), c13 c 1 (by omega) (by omega), c13 c 2 (by omega) (by omega), c13 c 3 (by omega) (by omega), c13 c 4 (by omega) (by omega)]; exact k2, fun j hj => ?_⟩, hv, hpf, hln, hm2, hm0⟩
      rw [c12 (c + 1) j (by omega) (by omega) (by rw [s1]) (by rw [s1]; dsimp only; omega), c12 (c + 2) j (by omega) (by omega) (by rw [s2]) (by rw [s2]; dsimp only; omega), c12 (c + 3) j (by omega) (by omega) (by rw [s3]) (by rw [s3]; dsimp only; omega), c12 (c + 4) j (by omega) (by omega) (by rw [s4]) (by rw [s4]; dsimp only; omega)]
      exact k3 j hj
    · have := c15 c y
      rw [p2] at this; exact absurd rfl this
  · rw [c11 744 j (by omega) (by omega) (by omega) (by omega) (by omega) (by omega), z1 765 j (by omega) (by omega), (c16 j).1, q1 765 j (by omega), hJ 744 j (by omega) (by omega) (by omega) (by omega) (by omega) (by omega)]
    exact hr j hj
theorem gCZ {nk k : Nat} (h : k ≤ 512) (hk : nk < k ∨ k ≤ nk) : gC nk k ≤ 4 ∧ gZ nk k ≤ 4200 := by
  unfold gC gZ
  split <;> omega
theorem s_rule {n tp nt nk nP nF nS kA fA cA gA : Nat} {I : Nat → Nat → Int32} {R : Nat → Nat → Option Nat} {L : Nat → Nat → Int64} {sh : Nat → Nat × Nat} {N : Nat} (h : IVC n tp nt nk nP nF nS kA fA cA gA I R L sh N) (hr : RFS I) (hn : n ≤ 512) {x1 : Int32} : SY mi_X_rule mi_M_rule n (I, R, L, sh, N) [.ref 0, .int x1] [.ref 761, .int x1] := by
  obtain ⟨hS, hR, hN, h7⟩ := h.1
  obtain ⟨⟨hT, hTn⟩, hTd, ⟨hV, hV2⟩, ⟨hk1, hk2, hk3⟩, h9⟩ := h.2.1
  obtain ⟨⟨t1, t2, t3, t4⟩, tn⟩ := h.2.2.1
  obtain ⟨⟨hW, hWT, hKW, rk, hrk⟩, hD, hB⟩ := h.2.2.2.1
  have hok := rdC_ok (T := I 770) (n := tp)
  obtain ⟨o1, o2, o3, o4, o5, o6⟩ := hok
  have hml : (rdC (I 770) tp).2.2.length ≤ tp := by omega
  have cX : Mt mi_X_rule 1100 6 1250 [.ref 0, .int x1] (I, R, L, sh, N) _ := c_X_rule hS hR hV hV2 (by omega) hW hWT hKW hrk hD (T := I 770) t4 t3 t1 h7 hN (by omega)
  have n14 : ∀ a, a < 781 → (sh a).1 ≠ 14 := fun a ha => ns14 hS ha
  have cM : ∀ (J : Nat → Nat → Int32) (R1 : Nat → Nat → Option Nat) (L1 : Nat → Nat → Int64) (sh1 : Nat → Nat × Nat) (N1 : Nat), BAS R1 sh1 N1 → TRf R1 sh1 kA fA cA gA nk → (∀ a j, 761 ≤ a → a < 781 → J a j = I a j) → Mt mi_M_rule 1100 (gC nk (nt + (rdC (I 770) tp).2.2.length)) (gZ nk (nt + (rdC (I 770) tp).2.2.length)) [.ref 761, .int x1] (J, R1, L1, sh1, N1) (MUX (J, R1, L1, sh1, N1) (kA, fA, cA, gA) nt tp nk nF (I 770) x1) := fun J R1 L1 sh1 N1 hB1 hT1 e => by
    have e2 : J 762 = I 762 := funext fun j => e 762 j (by omega) (by omega)
    exact c_M_rule hB1.1 hB1.2.1 (nP := nP) (nF := nF) (nt := nt) (by rw [e2]; exact hW) (fun K hK => MS.start hB1 hT1 hTn hTd ⟨hk1, by omega⟩ ((e 761 11 (by omega) (by omega)).trans t2) ((e 761 9 (by omega) (by omega)).trans h9) (fun j hj => e 770 j (by omega) (by omega)) hK) t1 (by omega) (by omega) (by omega)
  obtain ⟨g1, g2⟩ := gCZ (nk := nk) (k := nt + (rdC (I 770) tp).2.2.length) (by omega) (by omega)
  refine ⟨6, 1250, by omega, by omega, cX.imp (fun r h1 hq => ?_)⟩
  -- where the class refuses
  have jk : ∀ (jj : Nat) (v : Int32), RUB jj v I R L sh N r h1 → (∀ J : Nat → Nat → Int32, (∀ a j, 761 ≤ a → a < 781 → J a j = I a j) → ∀ (R1 : Nat → Nat → Option Nat) (r2 : Option Value) (h2 : HS), MUX (J, R1, L, sh, N) (kA, fA, cA, gA) nt tp nk nF (I 770) x1 r2 h2 → r2 = some (.int v) ∧ ∃ q, MEnd (J, R1, L, sh, N) (kA, fA, cA, gA) nt tp nk (I 770) q (rdC (I 770) tp).2.2 h2 (ZB jj)) → ∃ ac2 az2, ac2 ≤ 4 ∧ az2 ≤ 4200 ∧ ((∃ v, r = some (.int v)) ∧ h1.2.2.2.1 761 = (11, 0)) ∧ Mt mi_M_rule 1100 ac2 az2 [.ref 761, .int x1] h1 (fun r2 h2 => r2 = r ∧ INV (n + 1) h2) := fun jj v hb hz => by
    obtain ⟨K, R', rfl, rfl, f1, f2, f3, f4⟩ := hb
    have e : ∀ a j, 761 ≤ a → a < 781 → K a j = I a j := fun a j p1 p2 => f2 a j (fun z => by have := n14 a p2; unfold scX at z; omega) (by omega) (by omega)
    refine ⟨_, _, g1, g2, ⟨⟨_, rfl⟩, sh_761 hS⟩, (cM K R' L sh N ⟨hS, f1.2 hR, hN, h7⟩ (hT.rd (fun j => f1.1 761 j (by omega) (by omega))) e).imp (fun r2 h2 hq2 => ?_)⟩
    obtain ⟨rfl, q, I1, K2, R2, L2, sh2, N2, A2, hm, rfl, hZ⟩ := hz K e R' r2 h2 hq2
    exact ⟨rfl, rule_junk h hr hn f1 f2 f3 f4 hm o3 hml hZ⟩
  unfold RUX at hq
  by_cases cf : 0 ≤ x1.toInt ∧ x1.toInt < (nF : Int)
  · rw [if_pos cf] at hq
    have hF : x1.toInt.toNat < nF := by omega
    obtain ⟨w0, -, -, -, w4, -⟩ := hW.2.2.2.2.1 _ hF
    have eMU : ∀ J : Nat → Nat → Int32, (∀ a j, 761 ≤ a → a < 781 → J a j = I a j) → J 762 = I 762 := fun J e => funext fun j => e 762 j (by omega) (by omega)
    rcases hx : rdR (I 770) tp (I 762 (174 + 84 * x1.toInt.toNat + 0)).toInt.toNat with ⟨_ | ⟨ns, a⟩, q⟩
    · rw [hx] at hq
      refine jk 0 _ hq (fun J e R1 r2 h2 hq2 => ?_)
      unfold MUX at hq2
      rw [if_pos cf] at hq2
      dsimp only at hq2
      rw [e 762 (174 + 84 * x1.toInt.toNat + 0) (by omega) (by omega), hx] at hq2
      exact ⟨hq2.1, q, hq2.2⟩
    · rw [hx] at hq
      obtain ⟨k1, t, k2⟩ := rdR_m hx
      by_cases c6 : (I 762 (174 + 84 * x1.toInt.toNat + 4)).toInt = 6
      · dsimp only at hq
        rw [if_pos c6] at hq
        refine jk 4 _ hq (fun J e R1 r2 h2 hq2 => ?_)
        unfold MUX at hq2
        rw [if_pos cf] at hq2
        dsimp only at hq2
        rw [e 762 (174 + 84 * x1.toInt.toNat + 0) (by omega) (by omega), hx] at hq2
        dsimp only at hq2
        rw [if_pos (show (J 762 (174 + 84 * x1.toInt.toNat + 4)).toInt = 6 by rw [e 762 _ (by omega) (by omega)]; exact c6)] at hq2
        exact ⟨hq2.1, q, hq2.2⟩
      · dsimp only at hq
        rw [if_neg c6] at hq
        obtain ⟨m1, m2, m3, m4, m5, m6⟩ := rdR_ok t1 (by omega) hx
        have hq0 := hq
        obtain ⟨J, R1, L1, sh1, rfl, rfl, hs1, hsh, hL, hR1, hRf, hRn, hJ, hJ9, hJ5, hco, hpa⟩ := hq
        have fl := fe_lt (e := 0) (by decide) (show x1.toInt.toNat < 12 by have := hW.2.2.2.1; omega)
        have dk0 : dk 0 = 1 := rfl
        have rl : fe 0 x1.toInt.toNat + 7 + 2 * (I 762 (174 + 84 * x1.toInt.toNat + 4)).toInt.toNat = ru 0 x1.toInt.toNat (I 762 (174 + 84 * x1.toInt.toNat + 4)).toInt.toNat := by unfold ru; omega
        have e : ∀ a j, 761 ≤ a → a < 781 → J a j = I a j := fun a j p1 p2 => hJ a j (by omega) (by omega) (by omega) (by omega) (by omega) (by omega)
        have hT1 : TRf R1 sh1 kA fA cA gA nk := by
          obtain ⟨r1, r2, r3, r4, s1, s2, s3, s4⟩ := id hT
          have hr61 : ∀ j, R1 761 j = R 761 j := fun j => hR1 761 j (by omega) (by omega) (by omega)
          exact ⟨by rw [hr61]; exact r1, by rw [hr61]; exact r2, by rw [hr61]; exact r3, by rw [hr61]; exact r4, by rw [hsh kA (hN.lt s1 (by decide))]; exact s1, by rw [hsh fA (hN.lt s2 (by decide))]; exact s2, by rw [hsh cA (hN.lt s3 (by decide))]; exact s3, by rw [hsh gA (hN.lt s4 (by decide))]; exact s4⟩
        refine ⟨_, _, g1, g2, ⟨⟨_, rfl⟩, (hsh 761 (by omega)).trans (sh_761 hS)⟩, (cM J R1 L1 sh1 (N + 6) ⟨fun i hi => (hsh i (by omega)).trans (hS i hi), hRf, hs1, by omega⟩ hT1 e).imp (fun r2 h2 hq2 => ?_)⟩
        unfold MUX at hq2
        rw [if_pos cf] at hq2
        dsimp only at hq2
        rw [e 762 (174 + 84 * x1.toInt.toNat + 0) (by omega) (by omega), hx] at hq2
        dsimp only at hq2
        rw [if_neg (show ¬ (J 762 (174 + 84 * x1.toInt.toNat + 4)).toInt = 6 by rw [e 762 _ (by omega) (by omega)]; exact c6), k1, e 762 (174 + 84 * x1.toInt.toNat + 4) (by omega) (by omega)] at hq2
        rw [k1] at hml
        obtain ⟨rfl, I1, K, R2, L2, sh2, N2, A2, hm, rfl, hZ⟩ := hq2
        exact ⟨rfl, rule_done h hr hn hF (by omega) (by omega) hq0 m1 m2 m3 m4 m5 m6 hm hml hZ⟩
  · rw [if_neg cf] at hq
    obtain ⟨K, R', rfl, rfl, f1, f2, f3, f4⟩ := hq
    have e : ∀ a j, 761 ≤ a → a < 781 → K a j = I a j := fun a j p1 p2 => f2 a j (fun z => by have := n14 a p2; unfold scX at z; omega) (by omega) (by omega)
    refine ⟨_, _, g1, g2, ⟨⟨_, rfl⟩, sh_761 hS⟩, (cM K R' L sh N ⟨hS, f1.2 hR, hN, h7⟩ (hT.rd (fun j => f1.1 761 j (by omega) (by omega))) e).imp (fun r2 h2 hq2 => ?_)⟩
    unfold MUX at hq2
    rw [if_neg cf] at hq2
    obtain ⟨rfl, K2, rfl, z1, z2, z3⟩ := hq2
    dsimp only at z1 z3
    have eo : ∀ a j, ¬ scX sh a → ¬ scr a j → a ≠ 730 → a ≠ 770 → a ≠ 744 → a ≠ 765 → ¬ (a = 0 ∧ j = 9) → ¬ (a = 761 ∧ j = 11) → K2 a j = I a j := fun a j p1 p2 p3 p4 p5 p6 p7 p8 => (z1 a j p8 (by omega)).trans (f2 a j p1 p7 p5)
    refine ⟨rfl, K2, R', L, sh, N, 0, nt, nk, nP, nF, nS, kA, fA, cA, gA, rfl, ?_, fun j hj => ?_⟩
    · -- as if the tape had been wiped first
      have hw : IVC (n + 1) 0 nt nk nP nF nS kA fA cA gA (u2 (u2 I 0 9 (nI 0)) 761 11 (nI 0)) R L sh N := h.tape (fun a j p1 p2 p3 p4 p5 => (rd_nn rfl p5).trans (rd_nn rfl p4)) ⟨by omega, rd_eq rfl, (rd_ne rfl (by omega)).trans (rd_eq rfl), fun j hj => by omega⟩ (by omega)
      refine hw.same (fun a j p1 p2 p3 p4 => ?_) f1 (Nat.le_refl _)
      by_cases c1 : a = 761 ∧ j = 11
      · obtain ⟨rfl, rfl⟩ := c1
        rw [z2]; exact (rd_eq rfl).symm
      · rw [rd_nn (I' := u2 (u2 I 0 9 (nI 0)) 761 11 (nI 0)) rfl c1, z1 a j c1 (by omega)]
        by_cases c2 : a = 0 ∧ j = 9
        · obtain ⟨rfl, rfl⟩ := c2
          rw [f3]; exact (rd_eq rfl).symm
        · rw [rd_nn (I' := u2 I 0 9 (nI 0)) rfl c2]
          exact f2 a j p1 c2 p3
    · rw [z1 744 j (by omega) (by omega), f4]
      have e5 : K 765 j = I 765 j := e 765 j (by omega) (by omega)
      by_cases y : j = 0
      · subst y
        rw [if_pos rfl, z3, e5, hr 0 hj]
      · rw [if_neg y, z1 765 j (by omega) (by omega), e5, hr j hj]
