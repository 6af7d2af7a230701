/-! THE CLASS: the picture of its cells -/
/-! ===== THE CLASS: its cells, and the row g that they stand for ===== -/
theorem rf_dk {R : Nat → Nat → Option Nat} (h : RfOK R) {d : Nat} (hd : d < 3) : R (dk d) 0 = some (dk d + 1) ∧ R (dk d) 1 = some (dk d + 4) ∧ R (dk d) 3 = some (dk d + 5) ∧ R (dk d + 1) 0 = some (dk d + 2) ∧ R (dk d + 1) 1 = some (dk d + 3) ∧ R (dk d + 5) 0 = some (dk d + 6) ∧ R (dk d + 5) 1 = some (dk d + 7) ∧ R (dk d + 5) 2 = some (dk d + 8) ∧ R (dk d + 5) 3 = some (dk d + 9) ∧ R (dk d + 5) 4 = some (dk d + 10) := by
  rcases (show d = 0 ∨ d = 1 ∨ d = 2 by omega) with rfl | rfl | rfl
  · exact ⟨rf_1_0 h, rf_1_1 h, rf_1_3 h, rf_2_0 h, rf_2_1 h, rf_6_0 h, rf_6_1 h, rf_6_2 h, rf_6_3 h, rf_6_4 h⟩
  · exact ⟨rf_240_0 h, rf_240_1 h, rf_240_3 h, rf_241_0 h, rf_241_1 h, rf_245_0 h, rf_245_1 h, rf_245_2 h, rf_245_3 h, rf_245_4 h⟩
  · exact ⟨rf_479_0 h, rf_479_1 h, rf_479_3 h, rf_480_0 h, rf_480_1 h, rf_484_0 h, rf_484_1 h, rf_484_2 h, rf_484_3 h, rf_484_4 h⟩
theorem sh_dks {sh : Nat → Nat × Nat} (h : ShOK sh) {d : Nat} (hd : d < 3) : sh (dk d) = (2, 0) ∧ sh (dk d + 1) = (4, 0) ∧ sh (dk d + 2) = (12, 24) ∧ sh (dk d + 3) = (12, 24) ∧ sh (dk d + 4) = (15, 12) ∧ sh (dk d + 5) = (9, 0) ∧ sh (dk d + 6) = (12, 24) ∧ sh (dk d + 7) = (12, 24) ∧ sh (dk d + 8) = (12, 24) ∧ sh (dk d + 9) = (12, 24) ∧ sh (dk d + 10) = (12, 24) := by
  rcases (show d = 0 ∨ d = 1 ∨ d = 2 by omega) with rfl | rfl | rfl
  · exact ⟨sh_1 h, sh_2 h, sh_3 h, sh_4 h, sh_5 h, sh_6 h, sh_7 h, sh_8 h, sh_9 h, sh_10 h, sh_11 h⟩
  · exact ⟨sh_240 h, sh_241 h, sh_242 h, sh_243 h, sh_244 h, sh_245 h, sh_246 h, sh_247 h, sh_248 h, sh_249 h, sh_250 h⟩
  · exact ⟨sh_479 h, sh_480 h, sh_481 h, sh_482 h, sh_483 h, sh_484 h, sh_485 h, sh_486 h, sh_487 h, sh_488 h, sh_489 h⟩
/-- what a condition of the class stands for: the tree's nodes from b on -/
def CO (K F C S : Nat → Int32) (I : Nat → Nat → Int32) (R : Nat → Nat → Option Nat) (sh : Nat → Nat × Nat) (c m b : Nat) : Prop :=
  (sh c = (1, 0) ∧ sh (c + 1) = (12, m) ∧ sh (c + 2) = (12, m) ∧ sh (c + 3) = (12, m) ∧ sh (c + 4) = (12, m) ∧ sh (c + 5) = (14, m)) ∧ (R c 0 = some (c + 1) ∧ R c 1 = some (c + 2) ∧ R c 2 = some (c + 3) ∧ R c 3 = some (c + 4) ∧ R c 4 = some (c + 5)) ∧ (1 ≤ m ∧ m ≤ 250) ∧ 781 ≤ c ∧
  ∀ j, j < m → I (c + 1) j = K (b + j) ∧ ((K (b + j)).toInt = 3 → ∃ x, x < j ∧ I (c + 2) j = nI x ∧ F (b + j) = nI (b + x)) ∧ (7 ≤ (K (b + j)).toInt → ∃ x y, x < j ∧ y < j ∧ I (c + 2) j = nI x ∧ F (b + j) = nI (b + x) ∧ I (c + 3) j = nI y ∧ C (b + j) = nI (b + y)) ∧
    ((K (b + j)).toInt = 5 → I (c + 2) j = F (b + j) ∧ I (c + 3) j = C (b + j) ∧ I (c + 4) j = S (b + j)) ∧ ((K (b + j)).toInt = 6 → I (c + 2) j = F (b + j) ∧ I (c + 3) j = C (b + j))
/-- a rule of the class -/
def RR (K F C S : Nat → Int32) (I : Nat → Nat → Int32) (R : Nat → Nat → Option Nat) (sh : Nat → Nat × Nat) (nt d : Nat) (G : Nat → Int32) (E r : Nat) : Prop :=
  (1000 ≤ (G (174 + 84 * E + 60 + 4 * r + 1)).toInt → I (ru d E r) 1 = G (174 + 84 * E + 60 + 4 * r + 1) - nI 1000) ∧ (¬ 1000 ≤ (G (174 + 84 * E + 60 + 4 * r + 1)).toInt → I (ru d E r) 1 = -1 ∧ I (ru d E r + 1) 0 = G (174 + 84 * E + 60 + 4 * r + 1) ∧ I (ru d E r + 1) 1 = G (174 + 84 * E + 60 + 4 * r + 2) ∧ I (ru d E r + 1) 2 = G (174 + 84 * E + 60 + 4 * r + 3)) ∧
  ∃ c m b, R (ru d E r) 0 = some c ∧ CO K F C S I R sh c m b ∧ b + m ≤ nt ∧ G (174 + 84 * E + 60 + 4 * r + 0) = nI (b + m - 1)
/-- the override of a person, by its key -/
def ovV (G : Nat → Int32) (E : Nat) (key : Int32) : Int32 := match oB G E (G (174 + 84 * E + 6)).toInt.toNat key with
  | some k => G (174 + 84 * E + (20 + 2 * k + 1))
  | none => -1
def kpV (x : Int32) : Int32 := if 0 < x.toInt then x else -1
/-- a feature of the class -/
def FR (K F C S : Nat → Int32) (I : Nat → Nat → Int32) (R : Nat → Nat → Option Nat) (sh : Nat → Nat × Nat) (nt d : Nat) (G : Nat → Int32) (nP E : Nat) : Prop :=
  (I (fe d E) 0 = G (174 + 84 * E + 0) ∧ I (fe d E) 1 = G (174 + 84 * E + 1) ∧ I (fe d E) 2 = G (174 + 84 * E + 2) ∧ I (fe d E) 3 = G (174 + 84 * E + 3) ∧ I (fe d E) 5 = G (174 + 84 * E + 4) ∧ I (fe d E) 8 = G (174 + 84 * E + 5) ∧ I (fe d E) 12 = G (174 + 84 * E + 7) ∧ I (fe d E) 13 = G (174 + 84 * E + 8) ∧ I (fe d E) 14 = G (174 + 84 * E + 9)) ∧
  (∀ n, n < nNof G E → I (fe d E + 2) n = G (174 + 84 * E + (14 + 2 * n)) ∧ I (fe d E + 3) n = G (174 + 84 * E + (14 + 2 * n + 1))) ∧
  (∀ p, p < 24 → I (fe d E + 4) p = (if p < nP then ovV G E (G (6 + 2 * p)) else -1)) ∧ (∀ p, p < 24 → I (fe d E + 5) p = (if p < nP then kpV (G (174 + 84 * E + (36 + p))) else -1)) ∧ (∀ v, v < 4 → I (fe d E + 6) v = G (174 + 84 * E + (10 + v))) ∧
  ∀ r, r < nRof G E → RR K F C S I R sh nt d G E r
/-- a feature that isn't there yet -/
def FZ (I : Nat → Nat → Int32) (d E : Nat) : Prop := (I (fe d E) 1 = nI 0 ∧ I (fe d E) 2 = nI 0 ∧ I (fe d E) 3 = nI 0 ∧ I (fe d E) 5 = nI 0 ∧ I (fe d E) 8 = nI 0 ∧ I (fe d E) 12 = -1 ∧ I (fe d E) 13 = nI 0 ∧ I (fe d E) 14 = nI 0) ∧ (∀ p, p < 24 → I (fe d E + 4) p = -1 ∧ I (fe d E + 5) p = -1) ∧ ∀ v, v < 4 → I (fe d E + 6) v = nI 0
/-- a desk of the class, and the row g that it stands for -/
def DR (K F C S : Nat → Int32) (I : Nat → Nat → Int32) (R : Nat → Nat → Option Nat) (sh : Nat → Nat × Nat) (nt d : Nat) (G : Nat → Int32) (nP nF nS : Nat) : Prop :=
  (I (dk d + 1) 2 = nI nP ∧ I (dk d) 2 = nI nF ∧ I (dk d) 4 = G 3 ∧ I (dk d) 5 = G 5 ∧ I (dk d) 6 = G 4 ∧ I (dk d + 5) 5 = nI nS) ∧ (∀ p, p < nP → I (dk d + 2) p = G (6 + 2 * p) ∧ I (dk d + 3) p = G (6 + 2 * p + 1)) ∧
  (∀ i, i < nS → I (dk d + 6) i = G (54 + 5 * i) ∧ I (dk d + 7) i = G (54 + 5 * i + 1) ∧ I (dk d + 8) i = G (54 + 5 * i + 2) ∧ I (dk d + 9) i = G (54 + 5 * i + 3) ∧ I (dk d + 10) i = G (54 + 5 * i + 4)) ∧
  (∀ E, E < nF → FR K F C S I R sh nt d G nP E) ∧ ∀ E, nF ≤ E → E < 12 → FZ I d E
/-- more that is sound in the row g: keys, no two the same; overrides of persons, none twice; nothing kept but for persons -/
def WFK (G : Nat → Int32) (nP nF : Nat) : Prop := (∀ p q, p < nP → q < nP → G (6 + 2 * p) = G (6 + 2 * q) → p = q) ∧ (∀ E, E < nF → ∀ k, k < nOof G E → (∃ p, p < nP ∧ G (6 + 2 * p) = G (174 + 84 * E + (20 + 2 * k))) ∧ ∀ j, j < nOof G E → G (174 + 84 * E + (20 + 2 * j)) = G (174 + 84 * E + (20 + 2 * k)) → j = k) ∧ (∀ E, E < nF → ∀ p, nP ≤ p → p < 24 → G (174 + 84 * E + (36 + p)) = nI 0) ∧ 0 ≤ (G 3).toInt
/-- the class's scratch: rows that no call leaves anything in -/
def scX (sh : Nat → Nat × Nat) (a : Nat) : Prop := (479 ≤ a ∧ a < 729) ∨ (731 ≤ a ∧ a < 744) ∨ (sh a).1 = 14
def FrX (sh : Nat → Nat × Nat) (I J : Nat → Nat → Int32) : Prop := ∀ a j, ¬ scX sh a → J a j = I a j
theorem FrX.rf {sh : Nat → Nat × Nat} {I : Nat → Nat → Int32} : FrX sh I I := fun _ _ _ => rfl
theorem FrX.tr {sh : Nat → Nat × Nat} {I J K : Nat → Nat → Int32} (h : FrX sh I J) (h2 : FrX sh J K) : FrX sh I K := fun a j q => (h2 a j q).trans (h a j q)
theorem FrX.put {sh : Nat → Nat × Nat} {I J K : Nat → Nat → Int32} {a j : Nat} {v : Int32} (h : FrX sh I J) (e : K = u2 J a j v) (hc : scX sh a) : FrX sh I K := by
  intro b i q
  subst e
  rw [← h b i q]
  unfold u2
  rw [if_neg (fun z => q (by rw [z.1]; exact hc))]
/-- references: but for what the trial desk and the reader hold, all stays -/
def FrXR (R R' : Nat → Nat → Option Nat) : Prop := (∀ a j, (a < 479 ∨ 718 ≤ a) → a ≠ 731 → R' a j = R a j) ∧ (RfOK R → RfOK R')
theorem FrXR.rf {R : Nat → Nat → Option Nat} : FrXR R R := ⟨fun _ _ _ _ => rfl, id⟩
theorem FrXR.tr {R R' R2 : Nat → Nat → Option Nat} (h : FrXR R R') (h2 : FrXR R' R2) : FrXR R R2 := ⟨fun a j q z => (h2.1 a j q z).trans (h.1 a j q z), fun z => h2.2 (h.2 z)⟩
/-- the cells that a desk's picture speaks of -/
theorem CO.fr {K F C S : Nat → Int32} {I J : Nat → Nat → Int32} {R R' : Nat → Nat → Option Nat} {sh : Nat → Nat × Nat} {c m b : Nat} (h : CO K F C S I R sh c m b) (hJ : ∀ a j, 781 ≤ a → (sh a).1 ≠ 14 → J a j = I a j) (hR : ∀ a j, 781 ≤ a → R' a j = R a j) : CO K F C S J R' sh c m b := by
  obtain ⟨h1, h2, h3, h4, h5⟩ := h
  obtain ⟨s0, s1, s2, s3, s4, s5⟩ := id h1
  refine ⟨h1, by rw [hR c 0 h4, hR c 1 h4, hR c 2 h4, hR c 3 h4, hR c 4 h4]; exact h2, h3, h4, fun j hj => ?_⟩
  rw [hJ (c + 1) j (by omega) (by rw [s1]; show 12 ≠ 14; decide), hJ (c + 2) j (by omega) (by rw [s2]; show 12 ≠ 14; decide), hJ (c + 3) j (by omega) (by rw [s3]; show 12 ≠ 14; decide), hJ (c + 4) j (by omega) (by rw [s4]; show 12 ≠ 14; decide)]
  exact h5 j hj
theorem DR.fr {K F C S : Nat → Int32} {I J : Nat → Nat → Int32} {R R' : Nat → Nat → Option Nat} {sh : Nat → Nat × Nat} {nt d nP nF nS : Nat} {G : Nat → Int32} (hF12 : nF ≤ 12) (hR6 : ∀ E, E < nF → nRof G E ≤ 6) (hd : d < 3) (h : DR K F C S I R sh nt d G nP nF nS) (h1 : ∀ a j, dk d ≤ a → a < dk d + 239 → J a j = I a j) (h1R : ∀ a j, dk d ≤ a → a < dk d + 239 → R' a j = R a j)
    (hJ : ∀ a j, 781 ≤ a → (sh a).1 ≠ 14 → J a j = I a j) (hR : ∀ a j, 781 ≤ a → R' a j = R a j) : DR K F C S J R' sh nt d G nP nF nS := by
  have hfe : ∀ E, E < 12 → dk d + 11 ≤ fe d E ∧ fe d E + 19 ≤ dk d + 239 := fun E hE => by unfold fe dk; omega
  obtain ⟨⟨a1, a2, a3, a4, a5, a6⟩, b, c, e, f⟩ := h
  refine ⟨⟨by rw [h1 _ _ (by omega) (by omega)]; exact a1, by rw [h1 _ _ (by omega) (by omega)]; exact a2, by rw [h1 _ _ (by omega) (by omega)]; exact a3, by rw [h1 _ _ (by omega) (by omega)]; exact a4, by rw [h1 _ _ (by omega) (by omega)]; exact a5, by rw [h1 _ _ (by omega) (by omega)]; exact a6⟩, fun p hp => ?_, fun i hi => ?_, fun E hE => ?_, fun E h2 hE => ?_⟩
  · rw [h1 _ _ (by omega) (by omega), h1 _ _ (by omega) (by omega)]; exact b p hp
  · rw [h1 _ _ (by omega) (by omega), h1 _ _ (by omega) (by omega), h1 _ _ (by omega) (by omega), h1 _ _ (by omega) (by omega), h1 _ _ (by omega) (by omega)]; exact c i hi
  · obtain ⟨q1, q2⟩ := hfe E (by omega)
    have hr6 := hR6 E hE
    have g1 : ∀ k j, k < 19 → J (fe d E + k) j = I (fe d E + k) j := fun k j hk => h1 _ j (by omega) (by omega)
    have g0 : ∀ j, J (fe d E) j = I (fe d E) j := fun j => h1 _ j (by omega) (by omega)
    obtain ⟨x1, x2, x3, x4, x5, x6⟩ := e E hE
    refine ⟨by rw [g0, g0, g0, g0, g0, g0, g0, g0, g0]; exact x1, fun n hn => by rw [g1 2 _ (by omega), g1 3 _ (by omega)]; exact x2 n hn, fun p hp => by rw [g1 4 _ (by omega)]; exact x3 p hp, fun p hp => by rw [g1 5 _ (by omega)]; exact x4 p hp, fun v hv => by rw [g1 6 _ (by omega)]; exact x5 v hv, fun r hr => ?_⟩
    obtain ⟨y1, y2, cc, mm, bb, y3, y4, y5⟩ := x6 r hr
    have hru : ∀ j, J (ru d E r) j = I (ru d E r) j := fun j => h1 _ j (by unfold ru; omega) (by unfold ru; omega)
    have hru1 : ∀ j, J (ru d E r + 1) j = I (ru d E r + 1) j := fun j => h1 _ j (by unfold ru; omega) (by unfold ru; omega)
    refine ⟨by rw [hru]; exact y1, by rw [hru, hru1, hru1, hru1]; exact y2, cc, mm, bb, by rw [h1R _ _ (by unfold ru; omega) (by unfold ru; omega)]; exact y3, y4.fr hJ hR, y5⟩
  · obtain ⟨q1, q2⟩ := hfe E hE
    have g1 : ∀ k j, k < 19 → J (fe d E + k) j = I (fe d E + k) j := fun k j hk => h1 _ j (by omega) (by omega)
    have g0 : ∀ j, J (fe d E) j = I (fe d E) j := fun j => h1 _ j (by omega) (by omega)
    obtain ⟨x1, x2, x3⟩ := f E h2 hE
    exact ⟨by rw [g0, g0, g0, g0, g0, g0, g0, g0]; exact x1, fun p hp => by rw [g1 4 _ (by omega), g1 5 _ (by omega)]; exact x2 p hp, fun v hv => by rw [g1 6 _ (by omega)]; exact x3 v hv⟩
