/-! WHAT HOLDS BETWEEN TWO CALLS, carried over where trees grow, cells are made, rows are copied -/
theorem CO.gg {K F C S K' F' C' S' : Nat → Int32} {I J : Nat → Nat → Int32} {R R' : Nat → Nat → Option Nat} {sh sh' : Nat → Nat × Nat} {N nt nt' c m b : Nat} (hx : GRW K F C S K' F' C' S' nt nt') (hN : ShN sh N) (hs : ∀ a, a < N → sh' a = sh a) (hJ : ∀ a j, 781 ≤ a → a < N → (sh a).1 = 12 → (sh a).2 ≤ 250 → J a j = I a j) (hR : ∀ a j, 781 ≤ a → a < N → R' a j = R a j) (h : CO K F C S I R sh c m b) (hb : b + m ≤ nt) : CO K' F' C' S' J R' sh' c m b := by
  obtain ⟨⟨s0, s1, s2, s3, s4, s5⟩, h2, h3, h4, h5⟩ := h
  have l5 := hN.lt s5 (by decide)
  refine ⟨by rw [hs c (by omega), hs (c + 1) (by omega), hs (c + 2) (by omega), hs (c + 3) (by omega), hs (c + 4) (by omega), hs (c + 5) l5]; exact ⟨s0, s1, s2, s3, s4, s5⟩, by rw [hR c 0 h4 (by omega), hR c 1 h4 (by omega), hR c 2 h4 (by omega), hR c 3 h4 (by omega), hR c 4 h4 (by omega)]; exact h2, h3, h4, fun j hj => ?_⟩
  obtain ⟨x1, x2, x3, x4⟩ := hx.2 (b + j) (by omega)
  rw [hJ (c + 1) j (by omega) (by omega) (by rw [s1]) (by rw [s1]; exact h3.2), hJ (c + 2) j (by omega) (by omega) (by rw [s2]) (by rw [s2]; exact h3.2), hJ (c + 3) j (by omega) (by omega) (by rw [s3]) (by rw [s3]; exact h3.2), hJ (c + 4) j (by omega) (by omega) (by rw [s4]) (by rw [s4]; exact h3.2), x1, x2, x3, x4]
  exact h5 j hj
theorem DR.gg {K F C S K' F' C' S' : Nat → Int32} {I J : Nat → Nat → Int32} {R R' : Nat → Nat → Option Nat} {sh sh' : Nat → Nat × Nat} {N nt nt' d nP nF nS : Nat} {G : Nat → Int32} (hW : WFA G nP nF nt) (hd : d < 3) (hx : GRW K F C S K' F' C' S' nt nt') (hN : ShN sh N) (hs : ∀ a, a < N → sh' a = sh a) (hJ : ∀ a j, 781 ≤ a → a < N → (sh a).1 = 12 → (sh a).2 ≤ 250 → J a j = I a j) (hR : ∀ a j, 781 ≤ a → a < N → R' a j = R a j) (h1 : ∀ a j, dk d ≤ a → a < dk d + 239 → J a j = I a j) (h1R : ∀ a j, dk d ≤ a → a < dk d + 239 → R' a j = R a j) (h : DR K F C S I R sh nt d G nP nF nS) : DR K' F' C' S' J R' sh' nt' d G nP nF nS := by
  have hF12 := hW.2.2.2.1
  have hR6 : ∀ E, E < nF → nRof G E ≤ 6 := fun E hE => by
    obtain ⟨-, -, -, -, w4, -⟩ := hW.2.2.2.2.1 E hE
    unfold nRof; omega
  have hfe : ∀ E, E < 12 → dk d + 11 ≤ fe d E ∧ fe d E + 19 ≤ dk d + 239 := fun E hE => by unfold fe dk; omega
  obtain ⟨⟨a1, a2, a3, a4, a5, a6⟩, b, c, e, f⟩ := h
  refine ⟨⟨by rw [h1 _ _ (by omega) (by omega)]; exact a1, by rw [h1 _ _ (by omega) (by omega)]; exact a2, by rw [h1 _ _ (by omega) (by omega)]; exact a3, by rw [h1 _ _ (by omega) (by omega)]; exact a4, by rw [h1 _ _ (by omega) (by omega)]; exact a5, by rw [h1 _ _ (by omega) (by omega)]; exact a6⟩, fun p hp => ?_, fun i hi => ?_, fun E hE => ?_, fun E h2 hE => ?_⟩
  · rw [h1 _ _ (by omega) (by omega), h1 _ _ (by omega) (by omega)]; exact b p hp
  · rw [h1 _ _ (by omega) (by omega), h1 _ _ (by omega) (by omega), h1 _ _ (by omega) (by omega), h1 _ _ (by omega) (by omega), h1 _ _ (by omega) (by omega)]; exact c i hi
  · obtain ⟨q1, q2⟩ := hfe E (by omega)
    have hr6 := hR6 E hE
    have g1 : ∀ k j, k < 19 → J (fe d E + k) j = I (fe d E + k) j := fun k j hk => h1 _ j (by omega) (by omega)
    have g0 : ∀ j, J (fe d E) j = I (fe d E) j := fun j => h1 _ j (by omega) (by omega)
    obtain ⟨x1, x2, x3, x4, x5, x6⟩ := e E hE
    refine ⟨by rw [g0, g0, g0, g0, g0, g0, g0, g0, g0]; exact x1, fun n hn => by rw [g1 2 _ (by omega), g1 3 _ (by omega)]; exact x2 n hn, fun p hp => by rw [g1 4 _ (by omega)]; exact x3 p hp, fun p hp => by rw [g1 5 _ (by omega)]; exact x4 p hp, fun v hv => by rw [g1 6 _ (by omega)]; exact x5 v hv, fun r hr => ?_⟩
    obtain ⟨y1, y2, cc, mm, bb, y3, y4, y5, y6⟩ := x6 r hr
    have hru : ∀ j, J (ru d E r) j = I (ru d E r) j := fun j => h1 _ j (by unfold ru; omega) (by unfold ru; omega)
    have hru1 : ∀ j, J (ru d E r + 1) j = I (ru d E r + 1) j := fun j => h1 _ j (by unfold ru; omega) (by unfold ru; omega)
    exact ⟨by rw [hru]; exact y1, by rw [hru, hru1, hru1, hru1]; exact y2, cc, mm, bb, by rw [h1R _ _ (by unfold ru; omega) (by unfold ru; omega)]; exact y3, y4.gg hx hN hs hJ hR y5, by have := hx.1; omega, y6⟩
  · obtain ⟨q1, q2⟩ := hfe E hE
    have g1 : ∀ k j, k < 19 → J (fe d E + k) j = I (fe d E + k) j := fun k j hk => h1 _ j (by omega) (by omega)
    have g0 : ∀ j, J (fe d E) j = I (fe d E) j := fun j => h1 _ j (by omega) (by omega)
    obtain ⟨x1, x2, x3⟩ := f E h2 hE
    exact ⟨by rw [g0, g0, g0, g0, g0, g0, g0, g0]; exact x1, fun p hp => by rw [g1 4 _ (by omega), g1 5 _ (by omega)]; exact x2 p hp, fun v hv => by rw [g1 6 _ (by omega)]; exact x3 v hv⟩
/-- the row g counts below its length alone -/
theorem WG.cg {G G' : Nat → Int32} {nt nP nF nS : Nat} (h : WG G nt nP nF nS) (e : ∀ j, j < 1182 → G' j = G j) : WG G' nt nP nF nS := by
  obtain ⟨hA, hT, hK, rk, hr⟩ := h
  obtain ⟨hPc, hP24, hFc, hF12, hWF, hWP⟩ := id hA
  exact ⟨⟨by rw [e 0 (by omega)]; exact hPc, hP24, by rw [e 1 (by omega)]; exact hFc, hF12, fun E hE => WFF_congr (fun w hw => e _ (by omega)) (hWF E hE), fun p hp => by rw [e _ (by omega), e _ (by omega)]; exact hWP p hp⟩, WFT_congr hT (fun j hj => e j (by omega)), WFK_congr hA hK (fun p hp => e _ (by omega)) (fun E hE w hw => e _ (by omega)) (by rw [e 3 (by omega)]; exact hK.2.2.2), rk, RK_congr hA (fun E hE w hw => e _ (by omega)) hr⟩
theorem DR.gc {K F C S : Nat → Int32} {I : Nat → Nat → Int32} {R : Nat → Nat → Option Nat} {sh : Nat → Nat × Nat} {nt d nP nF nS : Nat} {G G' : Nat → Int32} (hW : WG G nt nP nF nS) (e : ∀ j, j < 1182 → G' j = G j) (h : DR K F C S I R sh nt d G nP nF nS) : DR K F C S I R sh nt d G' nP nF nS := by
  have hF12 := hW.1.2.2.2.1
  have hP24 := hW.1.2.1
  exact DR.mo hP24 hW.2.1.2.1 h (fun _ _ _ _ => rfl) (fun j hj => e j (by omega)) (fun E hE => FR.c (hW.ff hE) (h.2.2.2.1 E hE) (fun _ _ _ _ => rfl) (fun _ _ _ => rfl) (fun _ _ _ => rfl) (fun _ _ _ => rfl) (fun w hw => e _ (by omega)) (fun p hp => e _ (by omega))) (fun _ _ _ _ _ _ => rfl)
theorem DSK.gg {kA fA cA gA kA' fA' cA' gA' nt nt' : Nat} {I J : Nat → Nat → Int32} {R R' : Nat → Nat → Option Nat} {sh sh' : Nat → Nat × Nat} {N d nP nF nS : Nat} {G G' : Nat → Int32} {B B' : Int} (h : DSK kA fA cA gA nt I R sh d G B nP nF nS) (hd : d < 3) (hx : GRW (I kA) (I fA) (I cA) (I gA) (J kA') (J fA') (J cA') (J gA') nt nt') (hN : ShN sh N) (hs : ∀ a, a < N → sh' a = sh a) (hJ : ∀ a j, 781 ≤ a → a < N → (sh a).1 = 12 → (sh a).2 ≤ 250 → J a j = I a j) (hR : ∀ a j, 781 ≤ a → a < N → R' a j = R a j) (h1 : ∀ a j, dk d ≤ a → a < dk d + 239 → J a j = I a j) (h1R : ∀ a j, dk d ≤ a → a < dk d + 239 → R' a j = R a j) (e : ∀ j, j < 1182 → G' j = G j) (hB : B ≤ B') : DSK kA' fA' cA' gA' nt' J R' sh' d G' B' nP nF nS := by
  obtain ⟨a, b, c⟩ := h
  exact ⟨(a.nt hx.1).cg e, DR.gc (a.nt hx.1) e (DR.gg a.1 hd hx hN hs hJ hR h1 h1R b), by rw [e 3 (by omega)]; omega⟩
theorem SH1.gg {K F C S K' F' C' S' : Nat → Int32} {I J : Nat → Nat → Int32} {R R' : Nat → Nat → Option Nat} {L L' : Nat → Nat → Int64} {sh sh' : Nat → Nat × Nat} {N nt nt' s : Nat} {a b z : Int32} {E E' : Nat → Int64} (h : SH1 K F C S I R L sh nt s a b z E) (hx : GRW K F C S K' F' C' S' nt nt') (hN : ShN sh N) (hs : ∀ a, a < N → sh' a = sh a) (hJ : ∀ a j, 781 ≤ a → a < N → (sh a).1 = 12 → (sh a).2 ≤ 250 → J a j = I a j) (hR : ∀ a j, 781 ≤ a → a < N → R' a j = R a j) (h0 : ∀ j, J (745 + 2 * s) j = I (745 + 2 * s) j) (h3 : R' (745 + 2 * s) 3 = R (745 + 2 * s) 3) (hL : ∀ j, j < 40 → L' (746 + 2 * s) j = L (746 + 2 * s) j) (hE : ∀ j, j < 40 → E' (40 * s + j) = E (40 * s + j)) : SH1 K' F' C' S' J R' L' sh' nt' s a b z E' := by
  unfold SH1 at h ⊢
  rw [h0, h0, h0, h3]
  rcases h with h | ⟨h1, h2, h4, h5, h6, h7⟩ | ⟨c, m, bb, n, h1, h2, h4, h5, h6, h7, h8, h9⟩
  · exact Or.inl h
  · exact Or.inr (Or.inl ⟨h1, h2, h4, h5, h6, fun j hj => by rw [hL j hj, hE j hj]; exact h7 j hj⟩)
  · exact Or.inr (Or.inr ⟨c, m, bb, n, h1, h2.gg hx hN hs hJ hR h5, h4, by have := hx.1; omega, h6, h7, h8, by rw [(hx.2 (bb + n) (by omega)).1]; exact h9⟩)
theorem WSH.gg {I J : Nat → Nat → Int32} {K K' : Nat → Int32} {nt nt' : Nat} (h : WSH I K nt) (e7 : J 777 = I 777) (e8 : J 778 = I 778) (e0 : J 780 = I 780) (hn : nt ≤ nt') (hx : ∀ j, j < nt → K' j = K j) : WSH J K' nt' := by
  intro s hs
  rw [e7, e8, e0]
  obtain ⟨x1, x2⟩ := h s hs
  refine ⟨?_, x2⟩
  rcases x1 with q | q | ⟨q, t, q1, q2, q3⟩
  · exact Or.inl q
  · exact Or.inr (Or.inl q)
  · exact Or.inr (Or.inr ⟨q, t, by omega, q2, by rw [hx t q1]; exact q3⟩)
theorem SHE.gg {kA fA cA gA kA' fA' cA' gA' nt nt' : Nat} {I J : Nat → Nat → Int32} {R R' : Nat → Nat → Option Nat} {L L' : Nat → Nat → Int64} {sh sh' : Nat → Nat × Nat} {N : Nat} (h : SHE kA fA cA gA nt I R L sh) (hx : GRW (I kA) (I fA) (I cA) (I gA) (J kA') (J fA') (J cA') (J gA') nt nt') (hN : ShN sh N) (hs : ∀ a, a < N → sh' a = sh a) (hJ : ∀ a j, 781 ≤ a → a < N → (sh a).1 = 12 → (sh a).2 ≤ 250 → J a j = I a j) (hR : ∀ a j, 781 ≤ a → a < N → R' a j = R a j) (h0 : ∀ a j, 745 ≤ a → a < 761 → J a j = I a j) (h3 : ∀ a j, 745 ≤ a → a < 761 → R' a j = R a j) (hL : ∀ a j, 745 ≤ a → a < 781 → L' a j = L a j) (e7 : J 777 = I 777) (e8 : J 778 = I 778) (e0 : J 780 = I 780) : SHE kA' fA' cA' gA' nt' J R' L' sh' := by
  refine ⟨fun s hs2 => ?_, h.2.gg e7 e8 e0 hx.1 (fun j hj => (hx.2 j hj).1)⟩
  rw [e7, e8, e0]
  exact (h.1 s hs2).gg hx hN hs hJ hR (fun j => h0 _ j (by omega) (by omega)) (h3 _ _ (by omega) (by omega)) (fun j hj => hL _ j (by omega) (by omega)) (fun j hj => hL _ _ (by omega) (by omega))
theorem LYO.gg {I J : Nat → Nat → Int32} {R R' : Nat → Nat → Option Nat} {sh sh' : Nat → Nat × Nat} {N : Nat} (hS : ShOK sh) (h : LYO I R sh) (hN : ShN sh N) (hs : ∀ a, a < N → sh' a = sh a) (hJ : ∀ a j, 781 ≤ a → a < N → (sh a).1 = 12 → (sh a).2 ≤ 250 → J a j = I a j) (hR : ∀ a j, 781 ≤ a → a < N → R' a j = R a j) (hnew : ∀ c, N ≤ c → sh' c = (1, 0) → ∃ ns, CoK c ns J R' sh' ∧ NV ns ∧ PF ns 0 (ns.length - 1) ∧ ln ns (ns.length - 1) ≤ 250 ∧ ns.length < 250 ∧ 0 < ns.length) : LYO J R' sh' := by
  intro c hc
  rcases Nat.lt_or_ge c N with q | q
  · rw [hs c q] at hc
    have h7 := co781 hS hc
    obtain ⟨ns, ⟨⟨s0, s1, s2, s3, s4, s5⟩, k2, k3⟩, h2⟩ := h c hc
    have l5 := hN.lt s5 (by decide)
    have hl : ns.length ≤ 250 := by have := h2.2.2.2.1; omega
    refine ⟨ns, ⟨by rw [hs c (by omega), hs (c + 1) (by omega), hs (c + 2) (by omega), hs (c + 3) (by omega), hs (c + 4) (by omega), hs (c + 5) l5]; exact ⟨s0, s1, s2, s3, s4, s5⟩, by rw [hR c 0 h7 (by omega), hR c 1 h7 (by omega), hR c 2 h7 (by omega), hR c 3 h7 (by omega), hR c 4 h7 (by omega)]; exact k2, fun j hj => ?_⟩, h2⟩
    rw [hJ (c + 1) j (by omega) (by omega) (by rw [s1]) (by rw [s1]; exact hl), hJ (c + 2) j (by omega) (by omega) (by rw [s2]) (by rw [s2]; exact hl), hJ (c + 3) j (by omega) (by omega) (by rw [s3]) (by rw [s3]; exact hl), hJ (c + 4) j (by omega) (by omega) (by rw [s4]) (by rw [s4]; exact hl)]
    exact k3 j hj
  · exact hnew c q hc
theorem TRS.fr {kA fA cA gA nk nt : Nat} {I J : Nat → Nat → Int32} {R R' : Nat → Nat → Option Nat} {sh : Nat → Nat × Nat} (h : TRS kA fA cA gA nk nt I R sh) (eK : J kA = I kA) (eF : J fA = I fA) (eC : J cA = I cA) (eG : J gA = I gA) (e9 : J 761 9 = I 761 9) (hR : ∀ j, R' 761 j = R 761 j) : TRS kA fA cA gA nk nt J R' sh := by
  obtain ⟨⟨hT, hTn⟩, hTd, ⟨hV, hV2⟩, hk, h9⟩ := h
  exact ⟨⟨hT.rd hR, hTn⟩, hTd, ⟨by rw [eK, eF, eC]; exact hV, by rw [eK, eF, eC, eG]; exact hV2⟩, hk, by rw [e9]; exact h9⟩
theorem GRW.same {K F C S K' F' C' S' : Nat → Int32} {nt : Nat} (eK : K' = K) (eF : F' = F) (eC : C' = C) (eS : S' = S) : GRW K F C S K' F' C' S' nt nt := ⟨Nat.le_refl _, fun j _ => by rw [eK, eF, eC, eS]; exact ⟨rfl, rfl, rfl, rfl⟩⟩
