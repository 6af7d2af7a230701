/-! THE LAW'S CALLS: from the contracts of both to what holds behind -/
/-- what the reference needs at a call -/
def RPC (n tp nt nk nP nF nS kA fA cA gA : Nat) (K : Nat → Nat → Int32) (R : Nat → Nat → Option Nat) (sh : Nat → Nat × Nat) (N : Nat) : Prop := BAS R sh N ∧ TRS kA fA cA gA nk nt K R sh ∧ (K 761 11 = nI tp ∧ tp ≤ 250 ∧ nt + tp ≤ n) ∧ WG (K 762) nt nP nF nS ∧ WSH K (K kA) nt
/-- what the class's call leaves of the reference's cells -/
def EQS (kA fA cA gA : Nat) (I K : Nat → Nat → Int32) : Prop := K 762 = I 762 ∧ (K kA = I kA ∧ K fA = I fA ∧ K cA = I cA ∧ K gA = I gA) ∧ (K 777 = I 777 ∧ K 778 = I 778 ∧ K 780 = I 780) ∧ (K 761 11 = I 761 11 ∧ K 761 3 = I 761 3) ∧ K 764 = I 764 ∧ K 765 = I 765
def FrC (sh : Nat → Nat × Nat) (I K : Nat → Nat → Int32) : Prop := ∀ a j, ¬ scX sh a → a ≠ 744 → (a = 0 ∨ 240 ≤ a) → K a j = I a j
theorem fin1_o {A : Nat} {I : Nat → Nat → Int32} {x : Out} {a j : Nat} (h : a ≠ A) : fin1 A I x a j = I a j := by
  cases x with
  | inl v => rfl
  | inr k => show u2 I A k (I A k + nI 1) a j = _; unfold u2; rw [if_neg (fun z => h z.1)]
theorem FrC.hi {sh : Nat → Nat × Nat} {I K : Nat → Nat → Int32} (hS : ShOK sh) (h : FrC sh I K) {a : Nat} (ha : 744 < a) (h2 : a < 781 ∨ (sh a).1 ≠ 14) : K a = I a := by
  have h14 : (sh a).1 ≠ 14 := by
    rcases Nat.lt_or_ge a 781 with q | q
    · exact ns14 hS q
    · omega
  exact funext fun j => h a j (fun z => by unfold scX at z; omega) (by omega) (by omega)
theorem FrC.eqs {sh : Nat → Nat × Nat} {I K : Nat → Nat → Int32} {R : Nat → Nat → Option Nat} {kA fA cA gA nk : Nat} (hS : ShOK sh) (h : FrC sh I K) (hT : TRf R sh kA fA cA gA nk) (hN : TNe kA fA cA gA) : EQS kA fA cA gA I K := by
  obtain ⟨-, -, -, -, s1, s2, s3, s4⟩ := hT
  obtain ⟨n1, n2, n3, n4⟩ := hN
  refine ⟨h.hi hS (by omega) (by omega), ⟨h.hi hS (by omega) (Or.inr (by rw [s1]; show 12 ≠ 14; decide)), h.hi hS (by omega) (Or.inr (by rw [s2]; show 12 ≠ 14; decide)), h.hi hS (by omega) (Or.inr (by rw [s3]; show 12 ≠ 14; decide)), h.hi hS (by omega) (Or.inr (by rw [s4]; show 12 ≠ 14; decide))⟩, ⟨h.hi hS (by omega) (by omega), h.hi hS (by omega) (by omega), h.hi hS (by omega) (by omega)⟩, ⟨?_, ?_⟩, h.hi hS (by omega) (by omega), h.hi hS (by omega) (by omega)⟩
  · rw [h.hi hS (a := 761) (by omega) (by omega)]
  · rw [h.hi hS (a := 761) (by omega) (by omega)]
theorem TRf.rd {sh : Nat → Nat × Nat} {R R' : Nat → Nat → Option Nat} {kA fA cA gA nk : Nat} (hT : TRf R sh kA fA cA gA nk) (hR : ∀ j, R' 761 j = R 761 j) : TRf R' sh kA fA cA gA nk := by
  unfold TRf at hT ⊢
  rw [hR 5, hR 6, hR 7, hR 8]; exact hT
theorem IVC.eqs {n tp nt nk nP nF nS kA fA cA gA : Nat} {I K : Nat → Nat → Int32} {R : Nat → Nat → Option Nat} {L : Nat → Nat → Int64} {sh : Nat → Nat × Nat} {N : Nat} (h : IVC n tp nt nk nP nF nS kA fA cA gA I R L sh N) (hC : FrC sh I K) : EQS kA fA cA gA I K := hC.eqs h.1.1 h.2.1.1.1 h.2.1.1.2
theorem IVC.rpc {n tp nt nk nP nF nS kA fA cA gA : Nat} {I K : Nat → Nat → Int32} {R R' : Nat → Nat → Option Nat} {L : Nat → Nat → Int64} {sh : Nat → Nat × Nat} {N : Nat} (h : IVC n tp nt nk nP nF nS kA fA cA gA I R L sh N) (hC : FrC sh I K) (hR : RfOK R') (h1 : ∀ j, R' 761 j = R 761 j) : RPC n tp nt nk nP nF nS kA fA cA gA K R' sh N := by
  obtain ⟨e2, ⟨eK, eF, eC, eG⟩, ⟨e7, e8, e0⟩, ⟨e11, -⟩, -⟩ := h.eqs hC
  have e9 : K 761 = I 761 := hC.hi h.1.1 (by omega) (by omega)
  obtain ⟨⟨hS, hRf, hN, h7⟩, ⟨⟨hT, hTn⟩, hTd, ⟨hV, hV2⟩, hk, h9⟩, ⟨⟨t1, t2, t3, t4⟩, tn⟩, ⟨d1, -⟩, -, ⟨s1, s2⟩, hl⟩ := h
  refine ⟨⟨hS, hR, hN, h7⟩, ⟨⟨hT.rd h1, hTn⟩, hTd, ⟨by rw [eK, eF, eC]; exact hV, by rw [eK, eF, eC, eG]; exact hV2⟩, hk, by rw [e9]; exact h9⟩, ⟨by rw [e11]; exact t2, t1, tn⟩, by rw [e2]; exact d1, ?_⟩
  unfold WSH
  rw [eK, e7, e8, e0]
  exact s2
/-- refusals are counted on both sides -/
theorem RFS.fin {sh : Nat → Nat × Nat} {I K K2 : Nat → Nat → Int32} {x : Out} (h : RFS I) (h1 : ∀ j, K 744 j = fin1 744 I x 744 j) (h2 : ∀ j, K 765 j = I 765 j) (h3 : ∀ j, K2 744 j = K 744 j) (h4 : ∀ j, K2 765 j = fin1 765 K x 765 j) : RFS K2 := by
  intro j hj
  rw [h3, h4, h1]
  cases x with
  | inl v => show I 744 j = K 765 j; rw [h2]; exact h j hj
  | inr k =>
    show u2 I 744 k (I 744 k + nI 1) 744 j = u2 K 765 k (K 765 k + nI 1) 765 j
    unfold u2
    by_cases z : j = k
    · subst z
      rw [if_pos ⟨rfl, rfl⟩, if_pos ⟨rfl, rfl⟩, h2, h j hj]
    · rw [if_neg (fun q => z q.2), if_neg (fun q => z q.2), h2]; exact h j hj
theorem nsc744 {sh : Nat → Nat × Nat} (hS : ShOK sh) {a : Nat} (ha : a = 744 ∨ a = 765 ∨ a = 0) : ¬ scX sh a := fun z => by have := ns14 hS (a := a) (by omega); unfold scX at z; omega
theorem SY.ask {MX MM : MI} {n tp nt nk nP nF nS kA fA cA gA : Nat} {I : Nat → Nat → Int32} {R : Nat → Nat → Option Nat} {L : Nat → Nat → Int64} {sh : Nat → Nat × Nat} {N : Nat} {aX aM : List Value} {x : Out} (h : IVC n tp nt nk nP nF nS kA fA cA gA I R L sh N) (hr : RFS I) (cX : Mt MX 1100 0 0 aX (I, R, L, sh, N) (XP I R L sh N x (fun K _ => FrX sh I K))) (cM : ∀ K R', RPC n tp nt nk nP nF nS kA fA cA gA K R' sh N → EQS kA fA cA gA I K → Mt MM 1100 0 0 aM (K, R', L, sh, N) (RQ K R' L sh N x)) : SY MX MM n (I, R, L, sh, N) aX aM := by
  have hS := h.1.1
  refine ⟨0, 0, by omega, by omega, cX.imp (fun r h1 hq => ?_)⟩
  obtain ⟨K, R', rfl, rfl, hxr, hk⟩ := hq
  have hf : FrX sh (fin1 744 I x) K := by cases x with
    | inl v => exact hk
    | inr j => exact hk
  have hC : FrC sh I K := fun a j q1 q2 _ => (hf a j q1).trans (fin1_o q2)
  refine ⟨0, 0, by omega, by omega, ⟨⟨_, rfl⟩, sh_761 hS⟩, (cM K R' (h.rpc hC (hxr.2 h.1.2.1) (fun j => hxr.1 761 j (by omega) (by omega))) (h.eqs hC)).imp (fun r2 h2 hq2 => ?_)⟩
  obtain ⟨K2, rfl, rfl, hf2⟩ := hq2
  refine ⟨rfl, K2, R', L, sh, N, tp, nt, nk, nP, nF, nS, kA, fA, cA, gA, rfl, h.same (fun a j q1 q2 q3 q4 => ?_) hxr (Nat.le_succ n), RFS.fin (sh := sh) (x := x) (K := K) hr (fun j => hf 744 j (nsc744 hS (by omega))) (fun j => hC 765 j (nsc744 hS (by omega)) (by omega) (by omega)) (fun j => (hf2 744 j (fun z => by unfold scr at z; omega)).trans (fin1_o (by omega))) (fun j => hf2 765 j (fun z => by unfold scr at z; omega))⟩
  rw [hf2 a j q2, fin1_o q4, hf a j q1, fin1_o q3]
theorem SY.chg {MX MM : MI} {n tp nt nk nP nF nS nP' nF' nS' kA fA cA gA : Nat} {I : Nat → Nat → Int32} {R : Nat → Nat → Option Nat} {L : Nat → Nat → Int64} {sh : Nat → Nat × Nat} {N : Nat} {aX aM : List Value} {x : Out} {G' : Nat → Int32} (h : IVC n tp nt nk nP nF nS kA fA cA gA I R L sh N) (hr : RFS I) (cX : Mt MX 1100 0 0 aX (I, R, L, sh, N) (XD I R L sh N x (PD (I kA) (I fA) (I cA) (I gA) I R sh nt G' nP' nF' nS'))) (cM : ∀ K R', RPC n tp nt nk nP nF nS kA fA cA gA K R' sh N → EQS kA fA cA gA I K → Mt MM 1100 0 0 aM (K, R', L, sh, N) (RQW K R' L sh N x G')) (hw : ∀ v, x = .inl v → WG G' nt nP' nF' nS' ∧ (G' 3).toInt ≤ (I 762 3).toInt + 999) (hn : ∀ j, x = .inr j → G' = I 762) : SY MX MM n (I, R, L, sh, N) aX aM := by
  have hS := h.1.1
  refine ⟨0, 0, by omega, by omega, cX.imp (fun r h1 hq => ?_)⟩
  obtain ⟨K, R', rfl, rfl, hk⟩ := hq
  cases x with
  | inl v =>
    obtain ⟨hfd, hrd, hD⟩ : FrD sh I K ∧ FrRD R R' ∧ DR (I kA) (I fA) (I cA) (I gA) K R' sh nt 0 G' nP' nF' nS' := hk
    obtain ⟨w1, w2⟩ := hw v rfl
    have hC : FrC sh I K := fun a j q1 q2 q3 => hfd a j q1 q3
    refine ⟨0, 0, by omega, by omega, ⟨⟨_, rfl⟩, sh_761 hS⟩, (cM K R' (h.rpc hC (hrd.2 h.1.2.1) (fun j => hrd.1 761 j (by omega) (by omega))) (h.eqs hC)).imp (fun r2 h2 hq2 => ?_)⟩
    obtain ⟨K2, rfl, rfl, hf2⟩ := hq2
    have hf2 : FrS (setR K 762 G') K2 := hf2
    have e762 : K2 762 = G' := hf2.row2
    have eo : ∀ a j, ¬ scr a j → a ≠ 762 → K2 a j = K a j := fun a j q1 q2 => (hf2 a j q1).trans (by rw [setR_o q2])
    refine ⟨rfl, K2, R', L, sh, N, tp, nt, nk, nP', nF', nS', kA, fA, cA, gA, rfl, h.put (fun a j q1 q2 q3 q4 q5 q6 => (eo a j q2 q5).trans (hfd a j q1 q6)) hrd (Nat.le_succ n) (by rw [e762]; exact w1) (by rw [e762]; exact DR.w w1.1 (by decide) hD (fun a j q1 q2 => by unfold dk at q2; exact eo a j (fun z => by unfold scr at z; omega) (by omega)) (fun _ _ _ _ => rfl) (fun a j q1 q2 => eo a j (fun z => by unfold scr at z; omega) (by omega)) (fun _ _ _ => rfl)) (by rw [e762]; have := h.2.2.2.1.2.2; omega), RFS.fin (sh := sh) (x := .inl v) (K := K) hr (fun j => hfd 744 j (nsc744 hS (by omega)) (by omega)) (fun j => hC 765 j (nsc744 hS (by omega)) (by omega) (by omega)) (fun j => eo 744 j (fun z => by unfold scr at z; omega) (by omega)) (fun j => eo 765 j (fun z => by unfold scr at z; omega) (by omega))⟩
  | inr k =>
    obtain ⟨hxr, hf⟩ : FrXR R R' ∧ FrX sh (fin1 744 I (.inr k)) K := hk
    have eG := hn k rfl
    have hC : FrC sh I K := fun a j q1 q2 _ => (hf a j q1).trans (fin1_o q2)
    have hq := h.eqs hC
    refine ⟨0, 0, by omega, by omega, ⟨⟨_, rfl⟩, sh_761 hS⟩, (cM K R' (h.rpc hC (hxr.2 h.1.2.1) (fun j => hxr.1 761 j (by omega) (by omega))) hq).imp (fun r2 h2 hq2 => ?_)⟩
    obtain ⟨K2, rfl, rfl, hf2⟩ := hq2
    have e762 : G' = fin1 765 K (.inr k) 762 := by rw [eG, ← hq.1]; exact funext fun j => (fin1_o (by omega)).symm
    rw [e762, setR_self] at hf2
    refine ⟨rfl, K2, R', L, sh, N, tp, nt, nk, nP, nF, nS, kA, fA, cA, gA, rfl, h.same (fun a j q1 q2 q3 q4 => ?_) hxr (Nat.le_succ n), RFS.fin (sh := sh) (x := .inr k) (K := K) hr (fun j => hf 744 j (nsc744 hS (by omega))) (fun j => hC 765 j (nsc744 hS (by omega)) (by omega) (by omega)) (fun j => (hf2 744 j (fun z => by unfold scr at z; omega)).trans (fin1_o (by omega))) (fun j => hf2 765 j (fun z => by unfold scr at z; omega))⟩
    rw [hf2 a j q2, fin1_o q4, hf a j q1, fin1_o q3]
