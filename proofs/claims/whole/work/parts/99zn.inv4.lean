/-! THE LAW'S CALLS: tape, image, shelves: what they have in common -/
/-- the reference's cells stand -/
def FrM (sh : Nat → Nat × Nat) (I K : Nat → Nat → Int32) : Prop := ∀ a j, 761 ≤ a → (sh a).1 ≠ 14 → K a j = I a j
theorem FrM.hi {sh : Nat → Nat × Nat} {I K : Nat → Nat → Int32} (hS : ShOK sh) (h : FrM sh I K) {a : Nat} (ha : 761 ≤ a) (h2 : a < 781 ∨ (sh a).1 ≠ 14) : K a = I a := by
  have h14 : (sh a).1 ≠ 14 := by
    rcases Nat.lt_or_ge a 781 with q | q
    · exact ns14 hS q
    · omega
  exact funext fun j => h a j ha h14
theorem IVC.eqm {n tp nt nk nP nF nS kA fA cA gA : Nat} {I K : Nat → Nat → Int32} {R : Nat → Nat → Option Nat} {L : Nat → Nat → Int64} {sh : Nat → Nat × Nat} {N : Nat} (h : IVC n tp nt nk nP nF nS kA fA cA gA I R L sh N) (hC : FrM sh I K) : EQS kA fA cA gA I K := by
  have hS := h.1.1
  obtain ⟨-, -, -, -, s1, s2, s3, s4⟩ := h.2.1.1.1
  obtain ⟨n1, n2, n3, n4⟩ := h.2.1.1.2
  refine ⟨hC.hi hS (by omega) (by omega), ⟨hC.hi hS (by omega) (Or.inr (by rw [s1]; show 12 ≠ 14; decide)), hC.hi hS (by omega) (Or.inr (by rw [s2]; show 12 ≠ 14; decide)), hC.hi hS (by omega) (Or.inr (by rw [s3]; show 12 ≠ 14; decide)), hC.hi hS (by omega) (Or.inr (by rw [s4]; show 12 ≠ 14; decide))⟩, ⟨hC.hi hS (by omega) (by omega), hC.hi hS (by omega) (by omega), hC.hi hS (by omega) (by omega)⟩, ⟨?_, ?_⟩, hC.hi hS (by omega) (by omega), hC.hi hS (by omega) (by omega)⟩
  · rw [hC.hi hS (a := 761) (by omega) (by omega)]
  · rw [hC.hi hS (a := 761) (by omega) (by omega)]
theorem IVC.rpm {n tp nt nk nP nF nS kA fA cA gA : Nat} {I K : Nat → Nat → Int32} {R R' : Nat → Nat → Option Nat} {L : Nat → Nat → Int64} {sh : Nat → Nat × Nat} {N : Nat} (h : IVC n tp nt nk nP nF nS kA fA cA gA I R L sh N) (hC : FrM sh I K) (hR : RfOK R') (h1 : ∀ j, R' 761 j = R 761 j) : RPC n tp nt nk nP nF nS kA fA cA gA K R' sh N := by
  obtain ⟨e2, ⟨eK, eF, eC, eG⟩, ⟨e7, e8, e0⟩, ⟨e11, -⟩, -⟩ := h.eqm hC
  have e9 : K 761 = I 761 := hC.hi h.1.1 (by omega) (by omega)
  obtain ⟨⟨hS, hRf, hN, h7⟩, hTR, ⟨⟨t1, t2, t3, t4⟩, tn⟩, ⟨d1, -⟩, -, ⟨s1, s2⟩, hl⟩ := h
  exact ⟨⟨hS, hR, hN, h7⟩, hTR.fr eK eF eC eG (by rw [e9]) h1, ⟨by rw [e11]; exact t2, t1, tn⟩, by rw [e2]; exact d1, s2.gg e7 e8 e0 (Nat.le_refl _) (fun j _ => by rw [eK])⟩
/-- from pieces to the whole -/
theorem IVC.fin {n n' tp tp' nt nk nP nF nS nP' nF' nS' kA fA cA gA : Nat} {I J : Nat → Nat → Int32} {R R' : Nat → Nat → Option Nat} {L L' : Nat → Nat → Int64} {sh : Nat → Nat × Nat} {N : Nat} (h : IVC n tp nt nk nP nF nS kA fA cA gA I R L sh N) (hRf : RfOK R') (h61 : ∀ j, R' 761 j = R 761 j) (hR7 : ∀ a j, 781 ≤ a → R' a j = R a j) (eT : J kA = I kA ∧ J fA = I fA ∧ J cA = I cA ∧ J gA = I gA) (e9 : J 761 9 = I 761 9) (hJ7 : ∀ a j, 781 ≤ a → (sh a).1 ≠ 14 → J a j = I a j) (hT : TPE tp' J) (hc : nt + tp' ≤ n') (hD : DSK kA fA cA gA nt J R' sh 0 (J 762) (1000 * n') nP' nF' nS') (hI : IMG kA fA cA gA nt J R' sh (1000 * n')) (hH : SHE kA fA cA gA nt J R' L' sh) : IVC n' tp' nt nk nP' nF' nS' kA fA cA gA J R' L' sh N :=
  ⟨⟨h.1.1, hRf, h.1.2.2.1, h.1.2.2.2⟩, h.2.1.fr eT.1 eT.2.1 eT.2.2.1 eT.2.2.2 e9 h61, ⟨hT, hc⟩, hD, hI, hH, h.2.2.2.2.2.2.fr h.1.1 hJ7 hR7⟩
theorem DSK.fr {kA fA cA gA nt : Nat} {I J : Nat → Nat → Int32} {R R' : Nat → Nat → Option Nat} {sh : Nat → Nat × Nat} {d nP nF nS : Nat} {G G' : Nat → Int32} {B B' : Int} (h : DSK kA fA cA gA nt I R sh d G B nP nF nS) (hd : d < 3) {N : Nat} (hN : ShN sh N) (eT : J kA = I kA ∧ J fA = I fA ∧ J cA = I cA ∧ J gA = I gA) (hJ7 : ∀ a j, 781 ≤ a → (sh a).1 ≠ 14 → J a j = I a j) (hR7 : ∀ a j, 781 ≤ a → R' a j = R a j) (h1 : ∀ a j, dk d ≤ a → a < dk d + 239 → J a j = I a j) (h1R : ∀ a j, dk d ≤ a → a < dk d + 239 → R' a j = R a j) (e : ∀ j, j < 1182 → G' j = G j) (hB : B ≤ B') : DSK kA fA cA gA nt J R' sh d G' B' nP nF nS :=
  h.gg hd (GRW.same eT.1 eT.2.1 eT.2.2.1 eT.2.2.2) hN (fun _ _ => rfl) (fun a j q1 _ q2 _ => hJ7 a j q1 (by rw [q2]; decide)) (fun a j q1 _ => hR7 a j q1) h1 h1R e hB
theorem IMG.fr {kA fA cA gA nt : Nat} {I J : Nat → Nat → Int32} {R R' : Nat → Nat → Option Nat} {sh : Nat → Nat × Nat} {B B' : Int} (h : IMG kA fA cA gA nt I R sh B) {N : Nat} (hN : ShN sh N) (eT : J kA = I kA ∧ J fA = I fA ∧ J cA = I cA ∧ J gA = I gA) (hJ7 : ∀ a j, 781 ≤ a → (sh a).1 ≠ 14 → J a j = I a j) (hR7 : ∀ a j, 781 ≤ a → R' a j = R a j) (h1 : ∀ a j, 240 ≤ a → a < 479 → J a j = I a j) (h1R : ∀ a j, 240 ≤ a → a < 479 → R' a j = R a j) (e0 : J 0 3 = I 0 3) (e1 : J 761 3 = I 761 3) (e4 : J 764 = I 764) (hB : B ≤ B') : IMG kA fA cA gA nt J R' sh B' := by
  obtain ⟨i1, i2⟩ := h
  refine ⟨by rw [e0, e1]; exact i1, fun q => ?_⟩
  rw [e0] at q
  obtain ⟨p1, p2, p3, q1⟩ := i2 q
  exact ⟨p1, p2, p3, q1.fr (by decide) hN eT hJ7 hR7 (fun a j x y => by unfold dk at x y; exact h1 a j (by omega) (by omega)) (fun a j x y => by unfold dk at x y; exact h1R a j (by omega) (by omega)) (fun j _ => by rw [e4]) hB⟩
theorem SHE.fr {kA fA cA gA nt : Nat} {I J : Nat → Nat → Int32} {R R' : Nat → Nat → Option Nat} {L L' : Nat → Nat → Int64} {sh : Nat → Nat × Nat} (h : SHE kA fA cA gA nt I R L sh) {N : Nat} (hN : ShN sh N) (eT : J kA = I kA ∧ J fA = I fA ∧ J cA = I cA ∧ J gA = I gA) (hJ7 : ∀ a j, 781 ≤ a → (sh a).1 ≠ 14 → J a j = I a j) (hR7 : ∀ a j, 781 ≤ a → R' a j = R a j) (h0 : ∀ a j, 745 ≤ a → a < 761 → J a j = I a j) (h3 : ∀ a j, 745 ≤ a → a < 761 → R' a j = R a j) (hL : ∀ a j, 745 ≤ a → a < 781 → L' a j = L a j) (e7 : J 777 = I 777) (e8 : J 778 = I 778) (e0 : J 780 = I 780) : SHE kA fA cA gA nt J R' L' sh :=
  h.gg (GRW.same eT.1 eT.2.1 eT.2.2.1 eT.2.2.2) hN (fun _ _ => rfl) (fun a j q1 _ q2 _ => hJ7 a j q1 (by rw [q2]; decide)) (fun a j q1 _ => hR7 a j q1) h0 h3 hL e7 e8 e0
theorem TPE.fr {tp : Nat} {I J : Nat → Nat → Int32} (h : TPE tp I) (e11 : J 761 11 = I 761 11) (e9 : J 0 9 = I 0 9) (e3 : J 730 = I 730) (e7 : J 770 = I 770) : TPE tp J := by
  obtain ⟨t1, t2, t3, t4⟩ := h
  exact ⟨t1, by rw [e11]; exact t2, by rw [e9]; exact t3, fun j hj => by rw [e3, e7]; exact t4 j hj⟩
/-- refused on both sides -/
theorem SY.bad {MX MM : MI} {n tp nt nk nP nF nS kA fA cA gA k : Nat} {I : Nat → Nat → Int32} {R : Nat → Nat → Option Nat} {L : Nat → Nat → Int64} {sh : Nat → Nat × Nat} {N : Nat} {aX aM : List Value} (h : IVC n tp nt nk nP nF nS kA fA cA gA I R L sh N) (hr : RFS I) (cX : Mt MX 1100 0 0 aX (I, R, L, sh, N) (fun r h1 => ∃ K R', h1 = (K, R', L, sh, N) ∧ r = some (.int (ansOf (.inr k))) ∧ FrXR R R' ∧ FrX sh (fin1 744 I (.inr k)) K)) (cM : ∀ K R', RPC n tp nt nk nP nF nS kA fA cA gA K R' sh N → EQS kA fA cA gA I K → Mt MM 1100 0 0 aM (K, R', L, sh, N) (RQ K R' L sh N (.inr k))) : SY MX MM n (I, R, L, sh, N) aX aM :=
  SY.ask h hr (cX.imp (fun r h1 hq => hq)) cM
theorem FrS.m {T K2 : Nat → Nat → Int32} (h : FrS T K2) {a : Nat} (ha : a < 761 ∨ a = 762 ∨ (764 ≤ a ∧ a < 771) ∨ 777 ≤ a) (j : Nat) : K2 a j = T a j := h a j (fun z => by unfold scr at z; omega)
theorem SH1.w {K F C S : Nat → Int32} {I : Nat → Nat → Int32} {R : Nat → Nat → Option Nat} {L : Nat → Nat → Int64} {sh : Nat → Nat × Nat} {nt s : Nat} {a b z : Int32} {E : Nat → Int64} (hV : TV K F C nt) (h : SH1 K F C S I R L sh nt s a b z E) : a.toInt = -1 ∨ (0 ≤ a.toInt ∧ a.toInt ≤ 4) ∨ (10 ≤ a.toInt ∧ ∃ t : Nat, t < nt ∧ z = nI t ∧ a.toInt = 10 + (K t).toInt) := by
  rcases h with h | ⟨h1, -⟩ | ⟨c, m, bb, n, h1, h2, h4, h5, h6, h7, h8, h9⟩
  · exact Or.inl h.1
  · exact Or.inr (Or.inl h1)
  · obtain ⟨x1, x2, x3⟩ := SH1.ci hV (show bb + n < nt by omega) h9
    exact Or.inr (Or.inr ⟨by omega, bb + n, by omega, h8, x1⟩)
/-- one shelf changes -/
theorem SHE.one {kA fA cA gA nt s : Nat} {I K K2 : Nat → Nat → Int32} {R R' : Nat → Nat → Option Nat} {L L' L2 : Nat → Nat → Int64} {sh : Nat → Nat × Nat} {N : Nat} (h : SHE kA fA cA gA nt I R L sh) (hN : ShN sh N) (hV : TV (I kA) (I fA) (I cA) nt) (hs : s < 8) (hF : FH s I K R R' L L') (e1 : ∀ a j, 745 ≤ a → a < 761 → K2 a j = K a j) (e7 : ∀ a j, 781 ≤ a → (sh a).1 ≠ 14 → K2 a j = K a j) (eT : K2 kA = I kA ∧ K2 fA = I fA ∧ K2 cA = I cA ∧ K2 gA = I gA) (r7 : ∀ t, t ≠ s → K2 777 t = I 777 t ∧ K2 778 t = I 778 t ∧ K2 780 t = I 780 t) (l1 : ∀ a j, 745 ≤ a → a < 761 → L2 a j = L' a j) (l2 : ∀ j, ¬ (40 * s ≤ j ∧ j < 40 * s + 40) → L2 779 j = L 779 j) (hnew : SH1 (I kA) (I fA) (I cA) (I gA) K R' L' sh nt s (K2 777 s) (K2 778 s) (K2 780 s) (L2 779)) (hw : ∃ z : Nat, K2 778 s = nI z ∧ z ≤ 40) : SHE kA fA cA gA nt K2 R' L2 sh := by
  obtain ⟨f1, ⟨f2, -⟩, f3⟩ := hF
  have hx := GRW.same (nt := nt) eT.1 eT.2.1 eT.2.2.1 eT.2.2.2
  have hk : ∀ a j, 781 ≤ a → K a j = I a j := fun a j q => f1 a j (by omega)
  refine ⟨fun t ht => ?_, fun t ht => ?_⟩
  · by_cases q : t = s
    · subst q
      exact hnew.gg hx hN (fun _ _ => rfl) (fun a j q1 _ q2 _ => e7 a j q1 (by rw [q2]; decide)) (fun _ _ _ _ => rfl) (fun j => e1 _ j (by omega) (by omega)) rfl (fun j hj => l1 _ j (by omega) (by omega)) (fun _ _ => rfl)
    · obtain ⟨x1, x2, x3⟩ := r7 t q
      rw [x1, x2, x3]
      refine (h.1 t ht).gg hx hN (fun _ _ => rfl) (fun a j q1 _ q2 _ => (e7 a j q1 (by rw [q2]; decide)).trans (hk a j q1)) (fun a j q1 _ => f2 a j (by omega)) (fun j => (e1 _ j (by omega) (by omega)).trans (f1 _ j (by omega))) (f2 _ _ (by omega)) (fun j hj => (l1 _ j (by omega) (by omega)).trans (f3 _ j (by omega))) (fun j hj => l2 _ (by omega))
  · by_cases q : t = s
    · subst q
      refine ⟨?_, hw⟩
      rw [eT.1]
      exact SH1.w hV hnew
    · obtain ⟨x1, x2, x3⟩ := r7 t q
      rw [x1, x2, x3, eT.1]
      exact h.2 t ht
theorem FH.m {sh : Nat → Nat × Nat} {s : Nat} {I K : Nat → Nat → Int32} {R R' : Nat → Nat → Option Nat} {L L' : Nat → Nat → Int64} (hs : s < 8) (h : FH s I K R R' L L') : FrM sh I K := fun a j q _ => h.1 a j (by omega)
/-- from a call that has changed one shelf to what holds behind -/
theorem IVC.shelf {n tp nt nk nP nF nS kA fA cA gA s : Nat} {I K K2 : Nat → Nat → Int32} {R R' : Nat → Nat → Option Nat} {L L' L2 : Nat → Nat → Int64} {sh : Nat → Nat × Nat} {N : Nat} (h : IVC n tp nt nk nP nF nS kA fA cA gA I R L sh N) (hs : s < 8) (hF : FH s I K R R' L L') (e : ∀ a j, ¬ scr a j → a ≠ 777 → a ≠ 778 → a ≠ 780 → K2 a j = K a j) (r7 : ∀ t, t ≠ s → K2 777 t = I 777 t ∧ K2 778 t = I 778 t ∧ K2 780 t = I 780 t) (l1 : ∀ a j, 745 ≤ a → a < 761 → L2 a j = L' a j) (l2 : ∀ j, ¬ (40 * s ≤ j ∧ j < 40 * s + 40) → L2 779 j = L 779 j) (hnew : SH1 (I kA) (I fA) (I cA) (I gA) K R' L' sh nt s (K2 777 s) (K2 778 s) (K2 780 s) (L2 779)) (hw : ∃ z : Nat, K2 778 s = nI z ∧ z ≤ 40) : IVC (n + 1) tp nt nk nP nF nS kA fA cA gA K2 R' L2 sh N := by
  obtain ⟨f1, ⟨f2, f2R⟩, f3⟩ := id hF
  have hS := h.1.1
  have hN := h.1.2.2.1
  obtain ⟨n1, n2, n3, n4⟩ := h.2.1.1.2
  have eo : ∀ a j, ¬ scr a j → ¬ (745 ≤ a ∧ a < 761) → a ≠ 777 → a ≠ 778 → a ≠ 780 → K2 a j = I a j := fun a j q1 q2 q3 q4 q5 => (e a j q1 q3 q4 q5).trans (f1 a j (by omega))
  have er : ∀ a, ¬ (745 ≤ a ∧ a < 761) → a ≠ 777 → a ≠ 778 → a ≠ 780 → a ≠ 761 → a ≠ 763 → ¬ (771 ≤ a ∧ a ≤ 776) → K2 a = I a := fun a q1 q2 q3 q4 q5 q6 q7 => funext fun j => eo a j (fun z => by unfold scr at z; omega) q1 q2 q3 q4
  have eT : K2 kA = I kA ∧ K2 fA = I fA ∧ K2 cA = I cA ∧ K2 gA = I gA := ⟨er _ (by omega) (by omega) (by omega) (by omega) (by omega) (by omega) (by omega), er _ (by omega) (by omega) (by omega) (by omega) (by omega) (by omega) (by omega), er _ (by omega) (by omega) (by omega) (by omega) (by omega) (by omega) (by omega), er _ (by omega) (by omega) (by omega) (by omega) (by omega) (by omega) (by omega)⟩
  have e61 : ∀ j, j = 3 ∨ j = 9 ∨ j = 11 → K2 761 j = I 761 j := fun j hj => eo 761 j (fun z => by unfold scr at z; omega) (by omega) (by omega) (by omega) (by omega)
  have hJ7 : ∀ a j, 781 ≤ a → (sh a).1 ≠ 14 → K2 a j = I a j := fun a j q _ => by rw [er a (by omega) (by omega) (by omega) (by omega) (by omega) (by omega) (by omega)]
  have hR7 : ∀ a j, 781 ≤ a → R' a j = R a j := fun a j q => f2 a j (by omega)
  have e2 : K2 762 = I 762 := er _ (by omega) (by omega) (by omega) (by omega) (by omega) (by omega) (by omega)
  have e0 : K2 0 = I 0 := er _ (by omega) (by omega) (by omega) (by omega) (by omega) (by omega) (by omega)
  have htp := h.2.2.1
  refine h.fin (f2R h.1.2.1) (fun j => f2 _ j (by omega)) hR7 eT (e61 9 (by omega)) hJ7 (htp.1.fr (e61 11 (by omega)) (by rw [e0]) (er _ (by omega) (by omega) (by omega) (by omega) (by omega) (by omega) (by omega)) (er _ (by omega) (by omega) (by omega) (by omega) (by omega) (by omega) (by omega))) (by omega) (h.2.2.2.1.fr (by decide) hN eT hJ7 hR7 (fun a j x y => by unfold dk at x y; rw [er a (by omega) (by omega) (by omega) (by omega) (by omega) (by omega) (by omega)]) (fun a j x y => by unfold dk at x y; exact f2 a j (by omega)) (fun j _ => by rw [e2]) (by omega)) (h.2.2.2.2.1.fr hN eT hJ7 hR7 (fun a j x y => by rw [er a (by omega) (by omega) (by omega) (by omega) (by omega) (by omega) (by omega)]) (fun a j x y => f2 a j (by omega)) (by rw [e0]) (e61 3 (by omega)) (er _ (by omega) (by omega) (by omega) (by omega) (by omega) (by omega) (by omega)) (by omega)) (h.2.2.2.2.2.1.one hN h.2.1.2.2.1.1 hs hF (fun a j x y => e a j (fun z => by unfold scr at z; omega) (by omega) (by omega) (by omega)) (fun a j x y => e a j (fun z => by unfold scr at z; omega) (by omega) (by omega) (by omega)) eT r7 l1 l2 hnew hw)
theorem RFS.keep {I K : Nat → Nat → Int32} (h : RFS I) (e1 : ∀ j, K 744 j = I 744 j) (e2 : ∀ j, K 765 j = I 765 j) : RFS K := fun j hj => by rw [e1, e2]; exact h j hj
