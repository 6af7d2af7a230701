/-! THE CLASS: changes of the desk, on -/
theorem FR.count {K F C S : Nat → Int32} {I J : Nat → Nat → Int32} {R : Nat → Nat → Option Nat} {sh : Nat → Nat × Nat} {nt d nP nF E k : Nat} {G : Nat → Int32} {v : Int32} (hd : d < 3) (hE : E < 12) (hP : nP ≤ 24) (hw : WFF G nF nt E) (hk : k < 4) (h : FR K F C S I R sh nt d G nP E) (e : J = u2 I (fe d E + 6) k v) : FR K F C S J R sh nt d (u1 G (174 + 84 * E + (10 + k)) v) nP E := by
  obtain ⟨tp, kl, sk, fb, nR, nN, nO, fr, to, -, -, -, -, ⟨-, b4, c4, -⟩, ⟨-, b5, c5, -⟩, ⟨-, b6, c6, -⟩, -⟩ := wfn hw
  obtain ⟨⟨x0, x1, x2, x3, x4, x5, x6, x7, x8⟩, y2, y3, y4, y5, y6⟩ := h
  have hfl := fe_lt hd hE
  have hr : nRof (u1 G (174 + 84 * E + (10 + k)) v) E = nRof G E := by unfold nRof; rw [u1_o (by omega)]
  have hn : nNof (u1 G (174 + 84 * E + (10 + k)) v) E = nNof G E := by unfold nNof; rw [u1_o (by omega)]
  have hr6 : nRof G E ≤ 6 := by unfold nRof; rw [b4, Int.toNat_natCast]; exact c4
  have hn3 : nNof G E ≤ 3 := by unfold nNof; rw [b5, Int.toNat_natCast]; exact c5
  have ho8 : nOof G E ≤ 8 := by unfold nOof; rw [b6, Int.toNat_natCast]; exact c6
  refine ⟨⟨by rw [rd_ne e (by omega), u1_o (by omega)]; exact x0, by rw [rd_ne e (by omega), u1_o (by omega)]; exact x1, by rw [rd_ne e (by omega), u1_o (by omega)]; exact x2, by rw [rd_ne e (by omega), u1_o (by omega)]; exact x3, by rw [rd_ne e (by omega), u1_o (by omega)]; exact x4, by rw [rd_ne e (by omega), u1_o (by omega)]; exact x5, by rw [rd_ne e (by omega), u1_o (by omega)]; exact x6, by rw [rd_ne e (by omega), u1_o (by omega)]; exact x7, by rw [rd_ne e (by omega), u1_o (by omega)]; exact x8⟩, fun n hn2 => ?_, fun p hp => ?_, fun p hp => ?_, fun v hv => ?_, fun r hr2 => ?_⟩
  · rw [hn] at hn2
    rw [rd_ne e (by omega), rd_ne e (by omega), u1_o (by omega), u1_o (by omega)]; exact y2 n hn2
  · rw [rd_ne e (by omega), y3 p hp]
    by_cases q : p < nP
    · rw [if_pos q, if_pos q, u1_o (by omega), ovV_c (fun w hw => u1_o (by omega)) ho8]
    · rw [if_neg q, if_neg q]
  · rw [rd_ne e (by omega), u1_o (by omega)]; exact y4 p hp
  · by_cases q : v = k
    · subst q; rw [rd_eq e, u1_i]
    · rw [rd_nk e q, u1_o (by omega)]; exact y5 v hv
  · rw [hr] at hr2
    exact (y6 r hr2).c (fun a j h1 _ => rd_ne e (by omega)) (fun _ _ _ => rfl) (fun j => rd_ne e (by unfold ru; omega)) (fun j => rd_ne e (by unfold ru; omega)) rfl (fun k hk => u1_o (by omega))
theorem FR.kept {K F C S : Nat → Int32} {I J : Nat → Nat → Int32} {R : Nat → Nat → Option Nat} {sh : Nat → Nat × Nat} {nt d nP nF E k : Nat} {G : Nat → Int32} {v : Int32} (hd : d < 3) (hE : E < 12) (hP : nP ≤ 24) (hw : WFF G nF nt E) (hk : k < nP) (hv : 0 < v.toInt) (h : FR K F C S I R sh nt d G nP E) (e : J = u2 I (fe d E + 5) k v) : FR K F C S J R sh nt d (u1 G (174 + 84 * E + (36 + k)) v) nP E := by
  obtain ⟨tp, kl, sk, fb, nR, nN, nO, fr, to, -, -, -, -, ⟨-, b4, c4, -⟩, ⟨-, b5, c5, -⟩, ⟨-, b6, c6, -⟩, -⟩ := wfn hw
  obtain ⟨⟨x0, x1, x2, x3, x4, x5, x6, x7, x8⟩, y2, y3, y4, y5, y6⟩ := h
  have hfl := fe_lt hd hE
  have hr : nRof (u1 G (174 + 84 * E + (36 + k)) v) E = nRof G E := by unfold nRof; rw [u1_o (by omega)]
  have hn : nNof (u1 G (174 + 84 * E + (36 + k)) v) E = nNof G E := by unfold nNof; rw [u1_o (by omega)]
  have hr6 : nRof G E ≤ 6 := by unfold nRof; rw [b4, Int.toNat_natCast]; exact c4
  have hn3 : nNof G E ≤ 3 := by unfold nNof; rw [b5, Int.toNat_natCast]; exact c5
  have ho8 : nOof G E ≤ 8 := by unfold nOof; rw [b6, Int.toNat_natCast]; exact c6
  refine ⟨⟨by rw [rd_ne e (by omega), u1_o (by omega)]; exact x0, by rw [rd_ne e (by omega), u1_o (by omega)]; exact x1, by rw [rd_ne e (by omega), u1_o (by omega)]; exact x2, by rw [rd_ne e (by omega), u1_o (by omega)]; exact x3, by rw [rd_ne e (by omega), u1_o (by omega)]; exact x4, by rw [rd_ne e (by omega), u1_o (by omega)]; exact x5, by rw [rd_ne e (by omega), u1_o (by omega)]; exact x6, by rw [rd_ne e (by omega), u1_o (by omega)]; exact x7, by rw [rd_ne e (by omega), u1_o (by omega)]; exact x8⟩, fun n hn2 => ?_, fun p hp => ?_, fun p hp => ?_, fun v hv => ?_, fun r hr2 => ?_⟩
  · rw [hn] at hn2
    rw [rd_ne e (by omega), rd_ne e (by omega), u1_o (by omega), u1_o (by omega)]; exact y2 n hn2
  · rw [rd_ne e (by omega), y3 p hp]
    by_cases q : p < nP
    · rw [if_pos q, if_pos q, u1_o (by omega), ovV_c (fun w hw => u1_o (by omega)) ho8]
    · rw [if_neg q, if_neg q]
  · by_cases q : p = k
    · subst q; rw [rd_eq e, u1_i, if_pos hk]; unfold kpV; rw [if_pos hv]
    · rw [rd_nk e q, u1_o (by omega)]; exact y4 p hp
  · rw [rd_ne e (by omega), u1_o (by omega)]; exact y5 v hv
  · rw [hr] at hr2
    exact (y6 r hr2).c (fun a j h1 _ => rd_ne e (by omega)) (fun _ _ _ => rfl) (fun j => rd_ne e (by unfold ru; omega)) (fun j => rd_ne e (by unfold ru; omega)) rfl (fun k hk => u1_o (by omega))
theorem dkS_k : ∀ i, i < 239 → (dkS i).1 ≠ 14 := by decide +kernel
/-- but for scratch nothing has changed -/
theorem DR.x {K F C S : Nat → Int32} {I J : Nat → Nat → Int32} {R R' : Nat → Nat → Option Nat} {sh : Nat → Nat × Nat} {nt d nP nF nS : Nat} {G : Nat → Int32} (hS : ShOK sh) (hW : WFA G nP nF nt) (hd : d < 2) (h : DR K F C S I R sh nt d G nP nF nS) (hJ : FrX sh I J) (hR : FrXR R R') : DR K F C S J R' sh nt d G nP nF nS := by
  have hk : ∀ a, a < 479 → 1 ≤ a → (sh a).1 ≠ 14 := fun a h1 h2 => by
    rw [hS a (by omega)]
    unfold sh0
    rw [if_neg (by omega), if_pos (by omega)]
    exact dkS_k _ (Nat.mod_lt _ (by decide))
  have hdk : dk d + 239 ≤ 479 ∧ 1 ≤ dk d := by unfold dk; omega
  refine h.fr hW.2.2.2.1 (fun E hE => ?_) (by omega) (fun a j h1 h2 => hJ a j (fun z => ?_)) (fun a j h1 h2 => hR.1 a j (by omega) (by omega)) (fun a j h1 h2 => hJ a j (fun z => ?_)) (fun a j h1 => hR.1 a j (by omega) (by omega))
  · obtain ⟨tp, kl, sk, fb, nR, nN, nO, fr, to, -, -, -, -, ⟨-, b4, c4, -⟩, -⟩ := wfn (hW.2.2.2.2.1 E hE)
    unfold nRof; rw [b4, Int.toNat_natCast]; exact c4
  · unfold scX at z
    rcases z with z | z | z
    · omega
    · omega
    · exact hk a (by omega) (by omega) z
  · unfold scX at z
    rcases z with z | z | z
    · omega
    · omega
    · exact h2 z
/-- a new step -/
theorem DR.step {K F C S : Nat → Int32} {I J0 J1 J2 J3 J4 J : Nat → Nat → Int32} {R : Nat → Nat → Option Nat} {sh : Nat → Nat × Nat} {nt nP nF nS : Nat} {G : Nat → Int32} {t f r k q : Int32} (hW : WFA G nP nF nt) (hS24 : nS < 24) (h : DR K F C S I R sh nt 0 G nP nF nS) (e0 : J0 = u2 I 7 nS t) (e1 : J1 = u2 J0 8 nS f) (e2 : J2 = u2 J1 9 nS r) (e3 : J3 = u2 J2 10 nS k) (e4 : J4 = u2 J3 11 nS q) (e : J = u2 J4 6 5 (nI (nS + 1))) : DR K F C S J R sh nt 0 (g_step1 G nS t f r k q) nP nF (nS + 1) := by
  have hP24 := hW.2.1
  have hF12 := hW.2.2.2.1
  obtain ⟨⟨a1, a2, a3, a4, a5, a6⟩, b, c, fF, g⟩ := h
  have hj : ∀ a j, ¬ (6 ≤ a ∧ a ≤ 11) → J a j = I a j := fun a j ha => by rw [rd_ne e (by omega), rd_ne e4 (by omega), rd_ne e3 (by omega), rd_ne e2 (by omega), rd_ne e1 (by omega), rd_ne e0 (by omega)]
  have hG : ∀ j, j ≠ 2 → ¬ (54 + 5 * nS ≤ j ∧ j < 54 + 5 * nS + 5) → g_step1 G nS t f r k q j = G j := fun j h1 h2 => by unfold g_step1; rw [u1_o (by omega), u1_o (by omega), u1_o (by omega), u1_o (by omega), u1_o (by omega), u1_o (by omega)]
  have hd : dk 0 = 1 := rfl
  refine ⟨⟨by rw [hj _ _ (by omega)]; exact a1, by rw [hj _ _ (by omega)]; exact a2, by rw [hj _ _ (by omega), hG _ (by omega) (by omega)]; exact a3, by rw [hj _ _ (by omega), hG _ (by omega) (by omega)]; exact a4, by rw [hj _ _ (by omega), hG _ (by omega) (by omega)]; exact a5, by rw [hd]; exact rd_eq e⟩, fun p hp => by rw [hj _ _ (by omega), hj _ _ (by omega), hG _ (by omega) (by omega), hG _ (by omega) (by omega)]; exact b p hp, fun i hi => ?_, fun E hE => ?_, fun E h2 hE => ?_⟩
  · rw [hd]
    by_cases z : i = nS
    · subst z
      unfold g_step1
      refine ⟨?_, ?_, ?_, ?_, ?_⟩
      · rw [rd_ne e (by decide), rd_ne e4 (by decide), rd_ne e3 (by decide), rd_ne e2 (by decide), rd_ne e1 (by decide), rd_eq e0, u1_o (by omega), u1_o (by omega), u1_o (by omega), u1_o (by omega), u1_o (by omega), u1_i]
      · rw [rd_ne e (by decide), rd_ne e4 (by decide), rd_ne e3 (by decide), rd_ne e2 (by decide), rd_eq e1, u1_o (by omega), u1_o (by omega), u1_o (by omega), u1_o (by omega), u1_i]
      · rw [rd_ne e (by decide), rd_ne e4 (by decide), rd_ne e3 (by decide), rd_eq e2, u1_o (by omega), u1_o (by omega), u1_o (by omega), u1_i]
      · rw [rd_ne e (by decide), rd_ne e4 (by decide), rd_eq e3, u1_o (by omega), u1_o (by omega), u1_i]
      · rw [rd_ne e (by decide), rd_eq e4, u1_o (by omega), u1_i]
    · have hi2 : i < nS := by omega
      have hji : ∀ a, 7 ≤ a → a ≤ 11 → J a i = I a i := fun a h1 h2 => by
        rw [rd_ne e (by omega), rd_nk e4 (by omega), rd_nk e3 (by omega), rd_nk e2 (by omega), rd_nk e1 (by omega), rd_nk e0 (by omega)]
      have := c i hi2
      rw [hd] at this
      rw [hji _ (by omega) (by omega), hji _ (by omega) (by omega), hji _ (by omega) (by omega), hji _ (by omega) (by omega), hji _ (by omega) (by omega), hG _ (by omega) (by omega), hG _ (by omega) (by omega), hG _ (by omega) (by omega), hG _ (by omega) (by omega), hG _ (by omega) (by omega)]
      exact this
  · have hfl := fe_lt (e := 0) (by decide) (show E < 12 by omega)
    exact (fF E hE).c (hW.2.2.2.2.1 E hE) (fun a j h1 _ => hj a j (by omega)) (fun _ _ _ => rfl) (fun k j hk => hj _ _ (by omega)) (fun _ _ _ => rfl) (fun w hw => hG _ (by omega) (by omega)) (fun p hp => hG _ (by omega) (by omega))
  · have hfl := fe_lt (e := 0) (by decide) hE
    exact (g E h2 hE).c (fun k j hk => hj _ _ (by omega))
/-- a new feature -/
theorem DR.feature {K F C S : Nat → Int32} {I J0 J : Nat → Nat → Int32} {R : Nat → Nat → Option Nat} {sh : Nat → Nat × Nat} {nt nP nF nS : Nat} {G : Nat → Int32} {n : Int32} (hW : WFA G nP nF nt) (hT : WFT G nF nS) (hF : nF < 12) (h : DR K F C S I R sh nt 0 G nP nF nS) (e0 : J0 = u2 I (fe 0 nF) 0 n) (e : J = u2 J0 1 2 (nI (nF + 1))) : DR K F C S J R sh nt 0 (u1 (u1 (u1 (fil G (174 + 84 * nF + 0) (174 + 84 * nF + 84) (nI 0)) (174 + 84 * nF + 0) n) (174 + 84 * nF + 7) (-1)) 1 (nI (nF + 1))) nP (nF + 1) nS := by
  have hP24 := hW.2.1
  have hS24 := hT.2.1
  obtain ⟨G', hG'⟩ : ∃ G', G' = u1 (u1 (u1 (fil G (174 + 84 * nF + 0) (174 + 84 * nF + 84) (nI 0)) (174 + 84 * nF + 0) n) (174 + 84 * nF + 7) (-1)) 1 (nI (nF + 1)) := ⟨_, rfl⟩
  rw [← hG']
  have hG : ∀ j, j ≠ 1 → (j < 174 + 84 * nF ∨ 174 + 84 * nF + 84 ≤ j) → G' j = G j := fun j h1 h2 => by rw [hG', u1_o (by omega), u1_o (by omega), u1_o (by omega), fil_o (by omega)]
  have hz : ∀ w, w < 84 → w ≠ 0 → w ≠ 7 → G' (174 + 84 * nF + w) = nI 0 := fun w h1 h2 h3 => by
    rw [hG', u1_o (by omega), u1_o (by omega), u1_o (by omega)]; unfold fil; rw [if_pos (by omega)]
  have hfn := fe_lt (e := 0) (by decide) hF
  have hj : ∀ a j, a ≠ 1 → a ≠ fe 0 nF → J a j = I a j := fun a j h1 h2 => by rw [rd_ne e h1, rd_ne e0 h2]
  have hd : dk 0 = 1 := rfl
  have hfd : ∀ E, E ≠ nF → ∀ k, k < 19 → fe 0 E + k ≠ fe 0 nF := fun E h1 k hk => by unfold fe; omega
  obtain ⟨⟨a1, a2, a3, a4, a5, a6⟩, b, c, fF, g⟩ := h
  refine ⟨⟨by rw [hj _ _ (by omega) (by omega)]; exact a1, by rw [hd]; exact rd_eq e, by rw [hd, rd_nk e (by decide), rd_ne e0 (by omega), hG _ (by omega) (by omega)]; exact a3, by rw [hd, rd_nk e (by decide), rd_ne e0 (by omega), hG _ (by omega) (by omega)]; exact a4, by rw [hd, rd_nk e (by decide), rd_ne e0 (by omega), hG _ (by omega) (by omega)]; exact a5, by rw [hj _ _ (by omega) (by omega)]; exact a6⟩, fun p hp => by rw [hj _ _ (by omega) (by omega), hj _ _ (by omega) (by omega), hG _ (by omega) (by omega), hG _ (by omega) (by omega)]; exact b p hp, fun i hi => by rw [hj _ _ (by omega) (by omega), hj _ _ (by omega) (by omega), hj _ _ (by omega) (by omega), hj _ _ (by omega) (by omega), hj _ _ (by omega) (by omega), hG _ (by omega) (by omega), hG _ (by omega) (by omega), hG _ (by omega) (by omega), hG _ (by omega) (by omega), hG _ (by omega) (by omega)]; exact c i hi, fun E hE => ?_, fun E h2 hE => ?_⟩
  · by_cases q : E = nF
    · subst q
      obtain ⟨⟨x1, x2, x3, x5, x8, x12, x13, x14⟩, y, z⟩ := g E (Nat.le_refl _) hF
      have hf0 : ∀ k, k ≠ 0 → J (fe 0 E) k = I (fe 0 E) k := fun k hk => by rw [rd_ne e (by omega), rd_nk e0 hk]
      have hn0 : (nI 0).toInt.toNat = 0 := rfl
      refine ⟨⟨by rw [rd_ne e (by omega), rd_eq e0, hG', u1_o (by omega), u1_o (by omega), u1_i], by rw [hf0 1 (by decide), hz 1 (by decide) (by decide) (by decide)]; exact x1, by rw [hf0 2 (by decide), hz 2 (by decide) (by decide) (by decide)]; exact x2, by rw [hf0 3 (by decide), hz 3 (by decide) (by decide) (by decide)]; exact x3, by rw [hf0 5 (by decide), hz 4 (by decide) (by decide) (by decide)]; exact x5, by rw [hf0 8 (by decide), hz 5 (by decide) (by decide) (by decide)]; exact x8, by rw [hf0 12 (by decide), hG', u1_o (by omega), u1_i]; exact x12, by rw [hf0 13 (by decide), hz 8 (by decide) (by decide) (by decide)]; exact x13, by rw [hf0 14 (by decide), hz 9 (by decide) (by decide) (by decide)]; exact x14⟩, fun n hn => ?_, fun p hp => ?_, fun p hp => ?_, fun v hv => ?_, fun r hr => ?_⟩
      · unfold nNof at hn; rw [hz 5 (by decide) (by decide) (by decide), hn0] at hn; omega
      · rw [hj _ _ (by omega) (by omega), (y p hp).1]
        have ho : ovV G' E (G' (6 + 2 * p)) = -1 := ovV_none (by rw [hz 6 (by decide) (by decide) (by decide), hn0]; rfl)
        rw [ho]; split <;> rfl
      · rw [hj _ _ (by omega) (by omega), (y p hp).2, hz (36 + p) (by omega) (by omega) (by omega)]
        split
        · rfl
        · rfl
      · rw [hj _ _ (by omega) (by omega), hz (10 + v) (by omega) (by omega) (by omega)]; exact z v hv
      · unfold nRof at hr; rw [hz 4 (by decide) (by decide) (by decide), hn0] at hr; omega
    · have hfl := fe_lt (e := 0) (by decide) (show E < 12 by omega)
      exact (fF E (by omega)).c (hW.2.2.2.2.1 E (by omega)) (fun a j h1 _ => hj a j (by omega) (by omega)) (fun _ _ _ => rfl) (fun k j hk => hj _ _ (by omega) (hfd E q k hk)) (fun _ _ _ => rfl) (fun w hw => hG _ (by omega) (by omega)) (fun p hp => hG _ (by omega) (by omega))
  · have hfl := fe_lt (e := 0) (by decide) hE
    exact (g E (by omega) hE).c (fun k j hk => hj _ _ (by omega) (hfd E (by omega) k hk))
