/-! THE CLASS: the trees grew -/
/-- the trees grew -/
def GRW (K F C S K' F' C' S' : Nat → Int32) (nt nt' : Nat) : Prop := nt ≤ nt' ∧ ∀ j, j < nt → K' j = K j ∧ F' j = F j ∧ C' j = C j ∧ S' j = S j
theorem CO.mo {K F C S K' F' C' S' : Nat → Int32} {I J : Nat → Nat → Int32} {R R' : Nat → Nat → Option Nat} {sh sh' : Nat → Nat × Nat} {N nt nt' : Nat} {c m b : Nat} (hx : GRW K F C S K' F' C' S' nt nt') (hN : ShN sh N) (hs : ∀ a, a < N → sh' a = sh a) (hJ : ∀ a j, 781 ≤ a → a < N → J a j = I a j) (hR : ∀ a j, 781 ≤ a → a < N → R' a j = R a j) (h : CO K F C S I R sh c m b) (hb : b + m ≤ nt) : CO K' F' C' S' J R' sh' c m b := by
  obtain ⟨⟨s0, s1, s2, s3, s4, s5⟩, h2, h3, h4, h5⟩ := h
  have l5 := hN.lt s5 (by decide)
  refine ⟨by rw [hs c (by omega), hs (c + 1) (by omega), hs (c + 2) (by omega), hs (c + 3) (by omega), hs (c + 4) (by omega), hs (c + 5) l5]; exact ⟨s0, s1, s2, s3, s4, s5⟩, by rw [hR c 0 h4 (by omega), hR c 1 h4 (by omega), hR c 2 h4 (by omega), hR c 3 h4 (by omega), hR c 4 h4 (by omega)]; exact h2, h3, h4, fun j hj => ?_⟩
  obtain ⟨x1, x2, x3, x4⟩ := hx.2 (b + j) (by omega)
  rw [hJ (c + 1) j (by omega) (by omega), hJ (c + 2) j (by omega) (by omega), hJ (c + 3) j (by omega) (by omega), hJ (c + 4) j (by omega) (by omega), x1, x2, x3, x4]
  exact h5 j hj
theorem RR.mo {K F C S K' F' C' S' : Nat → Int32} {I J : Nat → Nat → Int32} {R R' : Nat → Nat → Option Nat} {sh sh' : Nat → Nat × Nat} {N nt nt' : Nat} {d E r : Nat} {G G' : Nat → Int32} (hx : GRW K F C S K' F' C' S' nt nt') (hN : ShN sh N) (hs : ∀ a, a < N → sh' a = sh a) (hJ : ∀ a j, 781 ≤ a → a < N → J a j = I a j) (hR : ∀ a j, 781 ≤ a → a < N → R' a j = R a j) (h : RR K F C S I R sh nt d G E r) (h1 : ∀ j, J (ru d E r) j = I (ru d E r) j) (h2 : ∀ j, J (ru d E r + 1) j = I (ru d E r + 1) j) (h3 : R' (ru d E r) 0 = R (ru d E r) 0) (hG : ∀ k, k < 4 → G' (174 + 84 * E + 60 + 4 * r + k) = G (174 + 84 * E + 60 + 4 * r + k)) : RR K' F' C' S' J R' sh' nt' d G' E r := by
  obtain ⟨a1, a2, c, m, b, a3, a4, a5, a6⟩ := h
  refine ⟨?_, ?_, c, m, b, by rw [h3]; exact a3, a4.mo hx hN hs hJ hR a5, by have := hx.1; omega, ?_⟩
  · rw [h1, hG 1 (by omega)]; exact a1
  · rw [h1, h2, h2, h2, hG 1 (by omega), hG 2 (by omega), hG 3 (by omega)]; exact a2
  · rw [hG 0 (by omega)]; exact a6
/-- a feature's picture where the trees grew; its rules may be one more -/
theorem FR.mo {K F C S K' F' C' S' : Nat → Int32} {I J : Nat → Nat → Int32} {R R' : Nat → Nat → Option Nat} {sh sh' : Nat → Nat × Nat} {N nt nt' : Nat} {d nP nF E : Nat} {G G' : Nat → Int32} (hx : GRW K F C S K' F' C' S' nt nt') (hN : ShN sh N) (hs : ∀ a, a < N → sh' a = sh a) (hJ : ∀ a j, 781 ≤ a → a < N → J a j = I a j) (hR : ∀ a j, 781 ≤ a → a < N → R' a j = R a j) (hw : WFF G nF nt E) (h : FR K F C S I R sh nt d G nP E) (h1 : ∀ k j, (k < 7 ∨ k < 7 + 2 * nRof G E) → ¬ (k = 0 ∧ j = 5) → J (fe d E + k) j = I (fe d E + k) j) (h5 : J (fe d E) 5 = G' (174 + 84 * E + 4)) (h1R : ∀ k j, k < 7 + 2 * nRof G E → R' (fe d E + k) j = R (fe d E + k) j) (hG : ∀ w, (w < 60 ∨ w < 60 + 4 * nRof G E) → w ≠ 4 → G' (174 + 84 * E + w) = G (174 + 84 * E + w)) (hGp : ∀ p, p < nP → G' (6 + 2 * p) = G (6 + 2 * p)) (hr : ∀ r, r < nRof G' E → ¬ r < nRof G E → RR K' F' C' S' J R' sh' nt' d G' E r) : FR K' F' C' S' J R' sh' nt' d G' nP E := by
  obtain ⟨tp, kl, sk, fb, nR, nN, nO, fr, to, -, -, -, -, ⟨-, b4, c4, -⟩, ⟨-, b5, c5, -⟩, ⟨-, b6, c6, -⟩, -⟩ := wfn hw
  obtain ⟨⟨x0, x1, x2, x3, x4, x5, x6, x7, x8⟩, y2, y3, y4, y5, y6⟩ := h
  have g0 : ∀ j, j ≠ 5 → J (fe d E) j = I (fe d E) j := fun j hj => h1 0 j (by omega) (by omega)
  have hn : nNof G' E = nNof G E := by unfold nNof; rw [hG 5 (by omega) (by omega)]
  have hn3 : nNof G E ≤ 3 := by unfold nNof; rw [b5, Int.toNat_natCast]; exact c5
  have ho8 : nOof G E ≤ 8 := by unfold nOof; rw [b6, Int.toNat_natCast]; exact c6
  refine ⟨⟨by rw [g0 0 (by decide), hG 0 (by omega) (by omega)]; exact x0, by rw [g0 1 (by decide), hG 1 (by omega) (by omega)]; exact x1, by rw [g0 2 (by decide), hG 2 (by omega) (by omega)]; exact x2, by rw [g0 3 (by decide), hG 3 (by omega) (by omega)]; exact x3, h5, by rw [g0 8 (by decide), hG 5 (by omega) (by omega)]; exact x5, by rw [g0 12 (by decide), hG 7 (by omega) (by omega)]; exact x6, by rw [g0 13 (by decide), hG 8 (by omega) (by omega)]; exact x7, by rw [g0 14 (by decide), hG 9 (by omega) (by omega)]; exact x8⟩, fun n hn2 => ?_, fun p hp => ?_, fun p hp => ?_, fun v hv => ?_, fun r hr2 => ?_⟩
  · rw [hn] at hn2
    rw [h1 2 _ (by omega) (by omega), h1 3 _ (by omega) (by omega), hG (14 + 2 * n) (by omega) (by omega), hG (14 + 2 * n + 1) (by omega) (by omega)]; exact y2 n hn2
  · rw [h1 4 _ (by omega) (by omega), y3 p hp]
    by_cases q : p < nP
    · rw [if_pos q, if_pos q, hGp p q, ovV_c (fun w hw => hG w (by omega) (by omega)) ho8]
    · rw [if_neg q, if_neg q]
  · rw [h1 5 _ (by omega) (by omega), hG (36 + p) (by omega) (by omega)]; exact y4 p hp
  · rw [h1 6 _ (by omega) (by omega), hG (10 + v) (by omega) (by omega)]; exact y5 v hv
  · by_cases q : r < nRof G E
    · refine (y6 r q).mo hx hN hs hJ hR (fun j => h1 (7 + 2 * r) j (by omega) (by omega)) (fun j => by have := h1 (8 + 2 * r) j (by omega) (by omega); rwa [show fe d E + (8 + 2 * r) = ru d E r + 1 by unfold ru; omega] at this) (h1R (7 + 2 * r) 0 (by omega)) (fun k hk => ?_)
      have := hG (60 + 4 * r + k) (by omega) (by omega)
      rwa [show 174 + 84 * E + (60 + 4 * r + k) = 174 + 84 * E + 60 + 4 * r + k by omega] at this
    · exact hr r hr2 q
/-- a desk's picture where the trees grew -/
theorem DR.mo {K F C S K' F' C' S' : Nat → Int32} {I J : Nat → Nat → Int32} {R R' : Nat → Nat → Option Nat} {sh sh' : Nat → Nat × Nat} {nt nt' d nP nF nS : Nat} {G G' : Nat → Int32} (hP24 : nP ≤ 24) (hS24 : nS ≤ 24) (h : DR K F C S I R sh nt d G nP nF nS) (h1 : ∀ a j, dk d ≤ a → a < dk d + 11 → J a j = I a j) (hG : ∀ j, j < 174 → G' j = G j) (hF : ∀ E, E < nF → FR K' F' C' S' J R' sh' nt' d G' nP E) (hz : ∀ E, nF ≤ E → E < 12 → ∀ k j, k < 19 → J (fe d E + k) j = I (fe d E + k) j) : DR K' F' C' S' J R' sh' nt' d G' nP nF nS := by
  obtain ⟨⟨a1, a2, a3, a4, a5, a6⟩, b, c, e, f⟩ := h
  refine ⟨⟨by rw [h1 _ _ (by omega) (by omega)]; exact a1, by rw [h1 _ _ (by omega) (by omega)]; exact a2, by rw [h1 _ _ (by omega) (by omega), hG _ (by omega)]; exact a3, by rw [h1 _ _ (by omega) (by omega), hG _ (by omega)]; exact a4, by rw [h1 _ _ (by omega) (by omega), hG _ (by omega)]; exact a5, by rw [h1 _ _ (by omega) (by omega)]; exact a6⟩, fun p hp => ?_, fun i hi => ?_, hF, fun E h2 hE => (f E h2 hE).c (hz E h2 hE)⟩
  · rw [h1 _ _ (by omega) (by omega), h1 _ _ (by omega) (by omega), hG _ (by omega), hG _ (by omega)]; exact b p hp
  · rw [h1 _ _ (by omega) (by omega), h1 _ _ (by omega) (by omega), h1 _ _ (by omega) (by omega), h1 _ _ (by omega) (by omega), h1 _ _ (by omega) (by omega), hG _ (by omega), hG _ (by omega), hG _ (by omega), hG _ (by omega), hG _ (by omega)]; exact c i hi
/-- the shares of an answer, as the row g has them -/
def shO (a : Nat ⊕ (Nat × Nat × Nat)) (k : Nat) : Int32 := match a with
  | .inl v => if k = 0 then nI (1000 + v) else nI 0
  | .inr (a, b, c) => if k = 0 then nI a else if k = 1 then nI b else nI c
/-- a rule more -/
def g_rule1 (G : Nat → Int32) (F r nt m : Nat) (a : Nat ⊕ (Nat × Nat × Nat)) : Nat → Int32 := u1 (u1 (u1 (u1 (u1 G (174 + 84 * F + 60 + 4 * r + 0) (nI (nt + m - 1))) (174 + 84 * F + 60 + 4 * r + 1) (shO a 0)) (174 + 84 * F + 60 + 4 * r + 2) (shO a 1)) (174 + 84 * F + 60 + 4 * r + 3) (shO a 2)) (174 + 84 * F + 4) (nI (r + 1))
/-- the nodes in the trees, from nt on -/
def NIN (K F C S : Nat → Int32) (nt : Nat) (ns : List Nd) : Prop := ∀ j, j < ns.length → K (nt + j) = nI (nd ns j).1 ∧ (((nd ns j).1 = 3 ∨ 7 ≤ (nd ns j).1) → F (nt + j) = nI (nt + (nd ns j).2.1)) ∧ (7 ≤ (nd ns j).1 → C (nt + j) = nI (nt + (nd ns j).2.2.1)) ∧ ((nd ns j).1 = 5 ∨ (nd ns j).1 = 6 → F (nt + j) = nI (nd ns j).2.1 ∧ C (nt + j) = nI (nd ns j).2.2.1) ∧ ((nd ns j).1 = 5 → S (nt + j) = nI (nd ns j).2.2.2)
theorem NV.nd {ns : List Nd} {j : Nat} (h : NV ns) (hj : j < ns.length) : nOK j (nd ns j) := h j hj
theorem CoK.co {K F C S : Nat → Int32} {J : Nat → Nat → Int32} {R : Nat → Nat → Option Nat} {sh : Nat → Nat × Nat} {c nt : Nat} {ns : List Nd} (hc : 781 ≤ c) (hm : 0 < ns.length) (hm2 : ns.length < 250) (hv : NV ns) (h : CoK c ns J R sh) (hn : NIN K F C S nt ns) : CO K F C S J R sh c ns.length nt := by
  obtain ⟨h1, h2, h3⟩ := h
  refine ⟨h1, h2, ⟨hm, by omega⟩, hc, fun j hj => ?_⟩
  obtain ⟨x1, x2, x3, x4⟩ := h3 j hj
  obtain ⟨y1, y2, y3, y4, y5⟩ := hn j hj
  obtain ⟨v1, v2, v3, v4, v5⟩ := hv.nd hj
  have hk : (K (nt + j)).toInt = ((nd ns j).1 : Int) := by rw [y1]; exact nI_toInt (by omega)
  rw [hk]
  refine ⟨x1.trans y1.symm, fun z => ?_, fun z => ?_, fun z => ?_, fun z => ?_⟩
  · have z2 : (nd ns j).1 = 3 := by omega
    exact ⟨_, v2 (Or.inl z2), x2, y2 (Or.inl z2)⟩
  · have z2 : 7 ≤ (nd ns j).1 := by omega
    exact ⟨_, _, v2 (Or.inr z2), v3 z2, x2, y2 (Or.inr z2), x3 (by omega), y3 z2⟩
  · have z2 : (nd ns j).1 = 5 := by omega
    obtain ⟨w1, w2⟩ := y4 (Or.inl z2)
    exact ⟨x2.trans w1.symm, (x3 (by omega)).trans w2.symm, x4.trans (y5 z2).symm⟩
  · have z2 : (nd ns j).1 = 6 := by omega
    obtain ⟨w1, w2⟩ := y4 (Or.inr z2)
    exact ⟨x2.trans w1.symm, (x3 (by omega)).trans w2.symm⟩
/-- what an answer may be -/
def aOK (a : Nat ⊕ (Nat × Nat × Nat)) : Prop := match a with
  | .inl v => v ≤ 3
  | .inr (a, b, c) => a ≤ 333 ∧ b ≤ 333 ∧ c ≤ 333
theorem g_rule1_o {G : Nat → Int32} {F r nt m w : Nat} {a : Nat ⊕ (Nat × Nat × Nat)} (h : ¬ (174 + 84 * F + 60 + 4 * r ≤ w ∧ w < 174 + 84 * F + 60 + 4 * r + 4)) (h2 : w ≠ 174 + 84 * F + 4) : g_rule1 G F r nt m a w = G w := by
  unfold g_rule1; rw [u1_o h2, u1_o (by omega), u1_o (by omega), u1_o (by omega), u1_o (by omega)]
theorem g_rule1_4 {G : Nat → Int32} {F r nt m : Nat} {a : Nat ⊕ (Nat × Nat × Nat)} : g_rule1 G F r nt m a (174 + 84 * F + 4) = nI (r + 1) := by unfold g_rule1; rw [u1_i]
theorem g_rule1_0 {G : Nat → Int32} {F r nt m : Nat} {a : Nat ⊕ (Nat × Nat × Nat)} : g_rule1 G F r nt m a (174 + 84 * F + 60 + 4 * r + 0) = nI (nt + m - 1) := by unfold g_rule1; rw [u1_o (by omega), u1_o (by omega), u1_o (by omega), u1_o (by omega), u1_i]
theorem g_rule1_k {G : Nat → Int32} {F r nt m k : Nat} {a : Nat ⊕ (Nat × Nat × Nat)} (hk : k < 3) : g_rule1 G F r nt m a (174 + 84 * F + 60 + 4 * r + (k + 1)) = shO a k := by
  unfold g_rule1
  rcases (show k = 0 ∨ k = 1 ∨ k = 2 by omega) with h | h | h <;> subst h
  · rw [u1_o (by omega), u1_o (by omega), u1_o (by omega), u1_i]
  · rw [u1_o (by omega), u1_o (by omega), u1_i]
  · rw [u1_o (by omega), u1_i]
/-- the rule that has been made -/
theorem RR.new {K F C S : Nat → Int32} {J : Nat → Nat → Int32} {R : Nat → Nat → Option Nat} {sh : Nat → Nat × Nat} {c nt E r : Nat} {ns : List Nd} {a : Nat ⊕ (Nat × Nat × Nat)} {G : Nat → Int32} (hco : CO K F C S J R sh c ns.length nt) (ha : aOK a) (hR : R (ru 0 E r) 0 = some c) (hp : PAr a (ru 0 E r) J) : RR K F C S J R sh (nt + ns.length) 0 (g_rule1 G E r nt ns.length a) E r := by
  have k1 : g_rule1 G E r nt ns.length a (174 + 84 * E + 60 + 4 * r + 1) = shO a 0 := g_rule1_k (k := 0) (by decide)
  have k2 : g_rule1 G E r nt ns.length a (174 + 84 * E + 60 + 4 * r + 2) = shO a 1 := g_rule1_k (k := 1) (by decide)
  have k3 : g_rule1 G E r nt ns.length a (174 + 84 * E + 60 + 4 * r + 3) = shO a 2 := g_rule1_k (k := 2) (by decide)
  refine ⟨?_, ?_, c, ns.length, nt, hR, hco, Nat.le_refl _, g_rule1_0⟩
  · rw [k1]
    cases a with
    | inl v =>
      intro _
      have hv : v ≤ 3 := ha
      show J (ru 0 E r) 1 = nI (1000 + v) - nI 1000
      rw [show nI (1000 + v) - nI 1000 = nI v from eq_nI (by rw [nI_sub_toInt (by omega) (by omega)]; omega)]
      exact hp
    | inr t =>
      obtain ⟨a, b, c⟩ := t
      intro h
      have hv : a ≤ 333 := ha.1
      have h2 : (nI a).toInt = (a : Int) := nI_toInt (by omega)
      have h3 : 1000 ≤ (nI a).toInt := h
      omega
  · rw [k1, k2, k3]
    cases a with
    | inl v =>
      intro h
      have hv : v ≤ 3 := ha
      have h2 : (nI (1000 + v)).toInt = ((1000 + v : Nat) : Int) := nI_toInt (by omega)
      have h3 : ¬ 1000 ≤ (nI (1000 + v)).toInt := h
      omega
    | inr t =>
      obtain ⟨a, b, c⟩ := t
      intro _
      exact hp
