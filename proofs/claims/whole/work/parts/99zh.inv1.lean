/-! WHAT HOLDS BETWEEN TWO CALLS OF THE LAW: class and reference in one heap -/
def BAS (R : Nat → Nat → Option Nat) (sh : Nat → Nat × Nat) (N : Nat) : Prop := ShOK sh ∧ RfOK R ∧ ShN sh N ∧ 781 ≤ N
/-- the reference's trees -/
def TRS (kA fA cA gA nk nt : Nat) (I : Nat → Nat → Int32) (R : Nat → Nat → Option Nat) (sh : Nat → Nat × Nat) : Prop := (TRf R sh kA fA cA gA nk ∧ TNe kA fA cA gA) ∧ (kA ≠ fA ∧ kA ≠ cA ∧ kA ≠ gA ∧ fA ≠ cA ∧ fA ≠ gA ∧ cA ≠ gA) ∧ (TV (I kA) (I fA) (I cA) nt ∧ TV2 (I kA) (I fA) (I cA) (I gA) nt) ∧ (nt ≤ nk ∧ 256 ≤ nk ∧ nk ≤ 2000) ∧ I 761 9 = nI nt
/-- a desk of the class, the reference's row, sound -/
def DSK (kA fA cA gA nt : Nat) (I : Nat → Nat → Int32) (R : Nat → Nat → Option Nat) (sh : Nat → Nat × Nat) (d : Nat) (G : Nat → Int32) (B : Int) (nP nF nS : Nat) : Prop := WG G nt nP nF nS ∧ DR (I kA) (I fA) (I cA) (I gA) I R sh nt d G nP nF nS ∧ (G 3).toInt ≤ B
def IMG (kA fA cA gA nt : Nat) (I : Nat → Nat → Int32) (R : Nat → Nat → Option Nat) (sh : Nat → Nat × Nat) (B : Int) : Prop := I 0 3 = I 761 3 ∧ (¬ (I 0 3).toInt = 0 → ∃ nP nF nS, DSK kA fA cA gA nt I R sh 1 (I 764) B nP nF nS)
def TPE (tp : Nat) (I : Nat → Nat → Int32) : Prop := tp ≤ 250 ∧ I 761 11 = nI tp ∧ I 0 9 = nI tp ∧ ∀ j, j < tp → I 730 j = I 770 j
def SHE (kA fA cA gA nt : Nat) (I : Nat → Nat → Int32) (R : Nat → Nat → Option Nat) (L : Nat → Nat → Int64) (sh : Nat → Nat × Nat) : Prop := SHR (I kA) (I fA) (I cA) (I gA) I R L sh nt (I 777) (I 778) (I 780) (L 779) ∧ WSH I (I kA) nt
/-- the class's conditions are such as the reader makes -/
def LYO (I : Nat → Nat → Int32) (R : Nat → Nat → Option Nat) (sh : Nat → Nat × Nat) : Prop := ∀ c, sh c = (1, 0) → ∃ ns, CoK c ns I R sh ∧ NV ns ∧ PF ns 0 (ns.length - 1) ∧ ln ns (ns.length - 1) ≤ 250 ∧ ns.length < 250 ∧ 0 < ns.length
def IVC (n tp nt nk nP nF nS kA fA cA gA : Nat) (I : Nat → Nat → Int32) (R : Nat → Nat → Option Nat) (L : Nat → Nat → Int64) (sh : Nat → Nat × Nat) (N : Nat) : Prop :=
  BAS R sh N ∧ TRS kA fA cA gA nk nt I R sh ∧ (TPE tp I ∧ nt + tp ≤ n) ∧ DSK kA fA cA gA nt I R sh 0 (I 762) (1000 * n) nP nF nS ∧ IMG kA fA cA gA nt I R sh (1000 * n) ∧ SHE kA fA cA gA nt I R L sh ∧ LYO I R sh
/-- refusals, counted alike -/
def RFS (I : Nat → Nat → Int32) : Prop := ∀ j, j < 5 → I 744 j = I 765 j
/-- behind n calls -/
def INV (n : Nat) (h : HS) : Prop := ∃ I R L sh N tp nt nk nP nF nS kA fA cA gA, h = (I, R, L, sh, N) ∧ IVC n tp nt nk nP nF nS kA fA cA gA I R L sh N ∧ RFS I
/-- a call of both: the same answer, and what holds goes on holding -/
def SY (MX MM : MI) (n : Nat) (h : HS) (aX aM : List Value) : Prop := ∃ ac az, ac ≤ 6 ∧ az ≤ 1250 ∧ Mt MX 1100 ac az aX h (fun r h1 => ∃ ac2 az2, ac2 ≤ 4 ∧ az2 ≤ 4200 ∧ ((∃ v, r = some (.int v)) ∧ h1.2.2.2.1 761 = (11, 0)) ∧ Mt MM 1100 ac2 az2 aM h1 (fun r2 h2 => r2 = r ∧ INV (n + 1) h2))
def SYL (MX MM : MI) (n : Nat) (h : HS) (aX aM : List Value) : Prop := ∃ ac az, ac ≤ 6 ∧ az ≤ 1250 ∧ Mt MX 1100 ac az aX h (fun r h1 => ∃ ac2 az2, ac2 ≤ 4 ∧ az2 ≤ 4200 ∧ ((∃ v, r = some (.long v)) ∧ h1.2.2.2.1 761 = (11, 0)) ∧ Mt MM 1100 ac2 az2 aM h1 (fun r2 h2 => r2 = r ∧ INV (n + 1) h2))
theorem sh0_14 : ∀ a, a < 781 → (sh0 a).1 ≠ 14 ∧ (sh0 a).1 ≠ 1 := by decide +kernel
theorem ns14 {sh : Nat → Nat × Nat} (hS : ShOK sh) {a : Nat} (h : a < 781) : (sh a).1 ≠ 14 := by rw [hS a h]; exact (sh0_14 a h).1
theorem co781 {sh : Nat → Nat × Nat} (hS : ShOK sh) {c : Nat} (h : sh c = (1, 0)) : 781 ≤ c := by
  rcases Nat.lt_or_ge c 781 with q | q
  · have := (sh0_14 c q).2
    rw [← hS c q, h] at this; exact absurd rfl this
  · exact q
/-- what may change in a call that keeps trees, tape, image, shelves -/
def FrW (sh : Nat → Nat × Nat) (I J : Nat → Nat → Int32) : Prop := ∀ a j, ¬ scX sh a → ¬ scr a j → a ≠ 744 → a ≠ 765 → a ≠ 762 → (a = 0 ∨ 240 ≤ a) → J a j = I a j
theorem FrW.row {sh : Nat → Nat × Nat} {I J : Nat → Nat → Int32} (hS : ShOK sh) (h : FrW sh I J) {a : Nat} (ha : a = 0 ∨ (240 ≤ a ∧ a < 479) ∨ a = 730 ∨ (745 ≤ a ∧ a < 761) ∨ a = 764 ∨ (766 ≤ a ∧ a < 771) ∨ (777 ≤ a ∧ a < 781) ∨ (781 ≤ a ∧ (sh a).1 ≠ 14)) : J a = I a := by
  have h14 : (sh a).1 ≠ 14 := by
    rcases Nat.lt_or_ge a 781 with q | q
    · exact ns14 hS q
    · omega
  funext j
  exact h a j (fun z => by unfold scX at z; omega) (fun z => by unfold scr at z; omega) (by omega) (by omega) (by omega) (by omega)
theorem FrW.fld {sh : Nat → Nat × Nat} {I J : Nat → Nat → Int32} (hS : ShOK sh) (h : FrW sh I J) {j : Nat} (hj : j = 3 ∨ j = 9 ∨ j = 11) : J 761 j = I 761 j := h 761 j (fun z => by have := ns14 hS (a := 761) (by omega); unfold scX at z; omega) (fun z => by unfold scr at z; omega) (by omega) (by omega) (by omega) (by omega)
theorem FrW.tree {sh : Nat → Nat × Nat} {I J : Nat → Nat → Int32} {R : Nat → Nat → Option Nat} {kA fA cA gA nk : Nat} (hS : ShOK sh) (h : FrW sh I J) (hT : TRf R sh kA fA cA gA nk) (hN : TNe kA fA cA gA) : J kA = I kA ∧ J fA = I fA ∧ J cA = I cA ∧ J gA = I gA := by
  obtain ⟨-, -, -, -, s1, s2, s3, s4⟩ := hT
  obtain ⟨n1, n2, n3, n4⟩ := hN
  refine ⟨h.row hS ?_, h.row hS ?_, h.row hS ?_, h.row hS ?_⟩
  · have : (sh kA).1 ≠ 14 := by rw [s1]; show 12 ≠ 14; decide
    omega
  · have : (sh fA).1 ≠ 14 := by rw [s2]; show 12 ≠ 14; decide
    omega
  · have : (sh cA).1 ≠ 14 := by rw [s3]; show 12 ≠ 14; decide
    omega
  · have : (sh gA).1 ≠ 14 := by rw [s4]; show 12 ≠ 14; decide
    omega
theorem LYO.fr {sh : Nat → Nat × Nat} {I J : Nat → Nat → Int32} {R R' : Nat → Nat → Option Nat} (hS : ShOK sh) (h : LYO I R sh) (hJ : ∀ a j, 781 ≤ a → (sh a).1 ≠ 14 → J a j = I a j) (hR : ∀ a j, 781 ≤ a → R' a j = R a j) : LYO J R' sh := by
  intro c hc
  have h7 := co781 hS hc
  obtain ⟨ns, ⟨k1, k2, k3⟩, h2⟩ := h c hc
  obtain ⟨s0, s1, s2, s3, s4, s5⟩ := id k1
  refine ⟨ns, ⟨k1, by rw [hR c 0 h7, hR c 1 h7, hR c 2 h7, hR c 3 h7, hR c 4 h7]; exact k2, fun j hj => ?_⟩, h2⟩
  rw [hJ (c + 1) j (by omega) (by rw [s1]; show 12 ≠ 14; decide), hJ (c + 2) j (by omega) (by rw [s2]; show 12 ≠ 14; decide), hJ (c + 3) j (by omega) (by rw [s3]; show 12 ≠ 14; decide), hJ (c + 4) j (by omega) (by rw [s4]; show 12 ≠ 14; decide)]
  exact k3 j hj
theorem SH1.fr {K F C S : Nat → Int32} {I J : Nat → Nat → Int32} {R R' : Nat → Nat → Option Nat} {L L' : Nat → Nat → Int64} {sh : Nat → Nat × Nat} {nt s : Nat} {a b z : Int32} {E E' : Nat → Int64} (h : SH1 K F C S I R L sh nt s a b z E) (h0 : ∀ j, J (745 + 2 * s) j = I (745 + 2 * s) j) (h3 : R' (745 + 2 * s) 3 = R (745 + 2 * s) 3) (hL : ∀ j, j < 40 → L' (746 + 2 * s) j = L (746 + 2 * s) j) (hE : ∀ j, j < 40 → E' (40 * s + j) = E (40 * s + j)) (hJ : ∀ a j, 781 ≤ a → (sh a).1 ≠ 14 → J a j = I a j) (hR : ∀ a j, 781 ≤ a → R' a j = R a j) : SH1 K F C S J R' L' sh nt s a b z E' := by
  unfold SH1 at h ⊢
  rw [h0, h0, h0, h3]
  rcases h with h | ⟨h1, h2, h4, h5, h6, h7⟩ | ⟨c, m, bb, n, h1, h2, h4⟩
  · exact Or.inl h
  · exact Or.inr (Or.inl ⟨h1, h2, h4, h5, h6, fun j hj => by rw [hL j hj, hE j hj]; exact h7 j hj⟩)
  · exact Or.inr (Or.inr ⟨c, m, bb, n, h1, h2.fr hJ hR, h4⟩)
theorem IVC.put {n n' tp nt nk nP nF nS nP' nF' nS' kA fA cA gA : Nat} {I J : Nat → Nat → Int32} {R R' : Nat → Nat → Option Nat} {L : Nat → Nat → Int64} {sh : Nat → Nat × Nat} {N : Nat} (h : IVC n tp nt nk nP nF nS kA fA cA gA I R L sh N) (hJ : FrW sh I J) (hR : FrRD R R') (hn : n ≤ n') (hd : WG (J 762) nt nP' nF' nS') (hD : DR (I kA) (I fA) (I cA) (I gA) J R' sh nt 0 (J 762) nP' nF' nS') (h3 : (J 762 3).toInt ≤ 1000 * n') : IVC n' tp nt nk nP' nF' nS' kA fA cA gA J R' L sh N := by
  obtain ⟨⟨hS, hRf, hN, h7⟩, ⟨⟨hT, hTn⟩, hTd, ⟨hV, hV2⟩, hk, h9⟩, ⟨⟨t1, t2, t3, t4⟩, tn⟩, -, ⟨i1, i2⟩, ⟨s1, s2⟩, hl⟩ := h
  obtain ⟨eK, eF, eC, eG⟩ := hJ.tree hS hT hTn
  have hJ7 : ∀ a j, 781 ≤ a → (sh a).1 ≠ 14 → J a j = I a j := fun a j h1 h2 => by rw [hJ.row hS (a := a) (by omega)]
  have hR7 : ∀ a j, 781 ≤ a → R' a j = R a j := fun a j h1 => hR.1 a j (by omega) (by omega)
  have e0 : J 0 = I 0 := hJ.row hS (by omega)
  refine ⟨⟨hS, hR.2 hRf, hN, h7⟩, ⟨⟨?_, hTn⟩, hTd, ⟨by rw [eK, eF, eC]; exact hV, by rw [eK, eF, eC, eG]; exact hV2⟩, hk, by rw [hJ.fld hS (by omega)]; exact h9⟩, ⟨⟨t1, by rw [hJ.fld hS (by omega)]; exact t2, by rw [e0]; exact t3, fun j hj => by rw [hJ.row hS (a := 730) (by omega), hJ.row hS (a := 770) (by omega)]; exact t4 j hj⟩, by omega⟩, ⟨hd, by rw [eK, eF, eC, eG]; exact hD, h3⟩, ⟨by rw [e0, hJ.fld hS (by omega)]; exact i1, fun q => ?_⟩, ⟨fun s hs => ?_, ?_⟩, hl.fr hS hJ7 hR7⟩
  · unfold TRf at hT ⊢
    rw [hR.1 761 5 (by omega) (by omega), hR.1 761 6 (by omega) (by omega), hR.1 761 7 (by omega) (by omega), hR.1 761 8 (by omega) (by omega)]
    exact hT
  · rw [e0] at q
    obtain ⟨p1, p2, p3, q1, q2, q3⟩ := i2 q
    have e4 : J 764 = I 764 := hJ.row hS (by omega)
    refine ⟨p1, p2, p3, ?_⟩
    unfold DSK
    rw [e4, eK, eF, eC, eG]
    exact ⟨q1, DR.w q1.1 (by decide) q2 (fun a j h1 h2 => by unfold dk at h1 h2; rw [hJ.row hS (a := a) (by omega)]) (fun a j h1 h2 => by unfold dk at h1 h2; exact hR.1 a j (by omega) (by omega)) hJ7 hR7, by omega⟩
  · rw [eK, eF, eC, eG, hJ.row hS (a := 777) (by omega), hJ.row hS (a := 778) (by omega), hJ.row hS (a := 780) (by omega)]
    exact SH1.fr (s1 s hs) (fun j => by rw [hJ.row hS (a := 745 + 2 * s) (by omega)]) (hR.1 _ _ (by omega) (by omega)) (fun _ _ => rfl) (fun _ _ => rfl) hJ7 hR7
  · unfold WSH
    rw [eK, hJ.row hS (a := 777) (by omega), hJ.row hS (a := 778) (by omega), hJ.row hS (a := 780) (by omega)]
    exact s2
theorem FrXR.rd {R R' : Nat → Nat → Option Nat} (h : FrXR R R') : FrRD R R' := ⟨fun a j q z => h.1 a j (by omega) z, h.2⟩
/-- a call that changes no desk -/
theorem IVC.same {n n' tp nt nk nP nF nS kA fA cA gA : Nat} {I J : Nat → Nat → Int32} {R R' : Nat → Nat → Option Nat} {L : Nat → Nat → Int64} {sh : Nat → Nat × Nat} {N : Nat} (h : IVC n tp nt nk nP nF nS kA fA cA gA I R L sh N) (hJ : ∀ a j, ¬ scX sh a → ¬ scr a j → a ≠ 744 → a ≠ 765 → J a j = I a j) (hR : FrXR R R') (hn : n ≤ n') : IVC n' tp nt nk nP nF nS kA fA cA gA J R' L sh N := by
  have hS := h.1.1
  have hJW : FrW sh I J := fun a j h1 h2 h3 h4 _ _ => hJ a j h1 h2 h3 h4
  have e2 : J 762 = I 762 := funext fun j => hJ 762 j (fun z => by have := ns14 hS (a := 762) (by omega); unfold scX at z; omega) (fun z => by unfold scr at z; omega) (by omega) (by omega)
  obtain ⟨d1, d2, d3⟩ := h.2.2.2.1
  have h12 : ∀ a, a < 479 → (sh a).1 ≠ 14 := fun a ha => ns14 hS (by omega)
  have hDD : DR (I kA) (I fA) (I cA) (I gA) J R' sh nt 0 (I 762) nP nF nS := by
    refine DR.w d1.1 (by decide) d2 (fun a j h1 h2 => ?_) (fun a j h1 h2 => ?_) (fun a j h1 h2 => hJ a j (fun z => by unfold scX at z; omega) (fun z => by unfold scr at z; omega) (by omega) (by omega)) (fun a j h1 => hR.1 a j (by omega) (by omega))
    · unfold dk at h1 h2
      have := h12 a (by omega)
      exact hJ a j (fun z => by unfold scX at z; omega) (fun z => by unfold scr at z; omega) (by omega) (by omega)
    · unfold dk at h1 h2
      exact hR.1 a j (by omega) (by omega)
  refine h.put hJW hR.rd hn (by rw [e2]; exact d1) (by rw [e2]; exact hDD) (by rw [e2]; omega)
