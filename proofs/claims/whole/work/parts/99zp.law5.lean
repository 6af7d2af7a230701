/-! THE LAW'S CALLS: feed, wipe, image, back -/
/-- what the reference's call leaves: all but its scratch -/
theorem IVC.tape {n tp tp' nt nk nP nF nS kA fA cA gA : Nat} {I K2 : Nat → Nat → Int32} {R : Nat → Nat → Option Nat} {L : Nat → Nat → Int64} {sh : Nat → Nat × Nat} {N : Nat} (h : IVC n tp nt nk nP nF nS kA fA cA gA I R L sh N) (e : ∀ a j, ¬ scr a j → a ≠ 730 → a ≠ 770 → ¬ (a = 0 ∧ j = 9) → ¬ (a = 761 ∧ j = 11) → K2 a j = I a j) (hT : TPE tp' K2) (hc : nt + tp' ≤ n + 1) : IVC (n + 1) tp' nt nk nP nF nS kA fA cA gA K2 R L sh N := by
  have hS := h.1.1
  have hN := h.1.2.2.1
  obtain ⟨n1, n2, n3, n4⟩ := h.2.1.1.2
  have er : ∀ a, a ≠ 730 → a ≠ 770 → a ≠ 0 → a ≠ 761 → a ≠ 763 → ¬ (771 ≤ a ∧ a ≤ 776) → K2 a = I a := fun a q1 q2 q3 q4 q5 q6 => funext fun j => e a j (fun z => by unfold scr at z; omega) q1 q2 (by omega) (by omega)
  have eT : K2 kA = I kA ∧ K2 fA = I fA ∧ K2 cA = I cA ∧ K2 gA = I gA := ⟨er _ (by omega) (by omega) (by omega) (by omega) (by omega) (by omega), er _ (by omega) (by omega) (by omega) (by omega) (by omega) (by omega), er _ (by omega) (by omega) (by omega) (by omega) (by omega) (by omega), er _ (by omega) (by omega) (by omega) (by omega) (by omega) (by omega)⟩
  have e61 : ∀ j, j = 3 ∨ j = 9 → K2 761 j = I 761 j := fun j hj => e 761 j (fun z => by unfold scr at z; omega) (by omega) (by omega) (by omega) (by omega)
  have hJ7 : ∀ a j, 781 ≤ a → (sh a).1 ≠ 14 → K2 a j = I a j := fun a j q _ => by rw [er a (by omega) (by omega) (by omega) (by omega) (by omega) (by omega)]
  have e2 : K2 762 = I 762 := er _ (by omega) (by omega) (by omega) (by omega) (by omega) (by omega)
  refine h.fin h.1.2.1 (fun j => rfl) (fun _ _ _ => rfl) eT (e61 9 (by omega)) hJ7 hT hc (h.2.2.2.1.fr (by decide) hN eT hJ7 (fun _ _ _ => rfl) (fun a j x y => by unfold dk at x y; rw [er a (by omega) (by omega) (by omega) (by omega) (by omega) (by omega)]) (fun _ _ _ _ => rfl) (fun j _ => by rw [e2]) (by omega)) (h.2.2.2.2.1.fr hN eT hJ7 (fun _ _ _ => rfl) (fun a j x y => by rw [er a (by omega) (by omega) (by omega) (by omega) (by omega) (by omega)]) (fun _ _ _ _ => rfl) (e 0 3 (fun z => by unfold scr at z; omega) (by omega) (by omega) (by omega) (by omega)) (e61 3 (by omega)) (er _ (by omega) (by omega) (by omega) (by omega) (by omega) (by omega)) (by omega)) (h.2.2.2.2.2.1.fr hN eT hJ7 (fun _ _ _ => rfl) (fun a j x y => by rw [er a (by omega) (by omega) (by omega) (by omega) (by omega) (by omega)]) (fun _ _ _ _ => rfl) (fun _ _ _ _ => rfl) (er _ (by omega) (by omega) (by omega) (by omega) (by omega) (by omega)) (er _ (by omega) (by omega) (by omega) (by omega) (by omega) (by omega)) (er _ (by omega) (by omega) (by omega) (by omega) (by omega) (by omega)))
theorem s_feed {n tp nt nk nP nF nS kA fA cA gA : Nat} {I : Nat → Nat → Int32} {R : Nat → Nat → Option Nat} {L : Nat → Nat → Int64} {sh : Nat → Nat × Nat} {N : Nat} (h : IVC n tp nt nk nP nF nS kA fA cA gA I R L sh N) (hr : RFS I) (hn : n ≤ 512) {x1 : Int32} : SY mi_X_feed mi_M_feed n (I, R, L, sh, N) [.ref 0, .int x1] [.ref 761, .int x1] := by
  obtain ⟨hS, hR, hN, h7⟩ := h.1
  obtain ⟨⟨hT, hTn⟩, hTd, ⟨hV, hV2⟩, ⟨hk1, hk2, hk3⟩, h9⟩ := h.2.1
  obtain ⟨⟨t1, t2, t3, t4⟩, tn⟩ := h.2.2.1
  obtain ⟨⟨hW, hWT, hKW, rk, hrk⟩, hD, hB⟩ := h.2.2.2.1
  obtain ⟨hH, hWS⟩ := h.2.2.2.2.2.1
  have cX : Mt mi_X_feed 1100 0 0 [.ref 0, .int x1] (I, R, L, sh, N) _ := c_X_feed hS hR t3 t1 (by omega)
  have cM : ∀ K R', RPC n tp nt nk nP nF nS kA fA cA gA K R' sh N → EQS kA fA cA gA I K → Mt mi_M_feed 1100 0 0 [.ref 761, .int x1] (K, R', L, sh, N) (RQT K R' L sh N (o_feed (nI tp) x1) (u2 (u2 K 770 tp x1) 761 11 (nI (tp + 1)))) := fun K R' hp he => by
    obtain ⟨⟨hS', hR', hN', h7'⟩, ⟨⟨hT', hTn'⟩, -, ⟨hV', hV2'⟩, -, -⟩, ⟨h11, -, -⟩, ⟨hW', hWT', hKW', rk', hrk'⟩, hWS'⟩ := hp
    obtain ⟨e2, ⟨eK, eF, eC, eG⟩, ⟨e7, e8, e0⟩, ⟨e11, e3⟩, e4, e5⟩ := he
    have q : Mt mi_M_feed 1100 0 0 [.ref 761, .int x1] (K, R', L, sh, N) _ := c_M_feed hS' hR' hT' hTn' hV' hk1 (by omega) hW' hrk' h11 t1 (by omega)
    rw [h11, show (nI tp).toInt.toNat = tp by rw [nI_toInt (by omega)]; rfl, show nI tp + nI 1 = nI (tp + 1) from nI_add tp 1] at q
    exact q
  rcases hx : o_feed (nI tp) x1 with v | k
  · rw [hx] at cX
    have c : tp < 250 := by
      unfold o_feed at hx
      split at hx
      · split at hx
        · cases hx
        · rename_i c1 c2
          rw [nI_toInt (by omega)] at c2; omega
      · cases hx
    refine ⟨0, 0, by omega, by omega, cX.imp (fun r h1 hq => ?_)⟩
    obtain ⟨K, R', rfl, rfl, rfl, K1, hK1, hK⟩ := hq
    have eK : ∀ a j, a ≠ 730 → ¬ (a = 0 ∧ j = 9) → K a j = I a j := fun a j q1 q2 => (rd_nn hK q2).trans (rd_ne hK1 q1)
    have hM : FrM sh I K := fun a j q _ => eK a j (by omega) (by omega)
    have he := h.eqm hM
    refine ⟨0, 0, by omega, by omega, ⟨⟨_, rfl⟩, sh_761 hS⟩, (cM K _ (h.rpm hM hR (fun _ => rfl)) he).imp (fun r2 h2 hq2 => ?_)⟩
    rw [hx] at hq2
    obtain ⟨K2, rfl, rfl, hf2⟩ := hq2
    have hf2 : FrS (u2 (u2 K 770 tp x1) 761 11 (nI (tp + 1))) K2 := hf2
    have e0 : ∀ a j, ¬ scr a j → a ≠ 770 → ¬ (a = 761 ∧ j = 11) → K2 a j = K a j := fun a j q1 q2 q3 => (hf2 a j q1).trans ((rd_nn rfl q3).trans (rd_ne rfl q2))
    have x9 : K2 0 9 = nI (tp + 1) := (e0 0 9 (fun z => by unfold scr at z; omega) (by omega) (by omega)).trans (rd_eq hK)
    have x11 : K2 761 11 = nI (tp + 1) := (hf2 761 11 (fun z => by unfold scr at z; omega)).trans (rd_eq rfl)
    refine ⟨rfl, K2, _, _, sh, N, tp + 1, nt, nk, nP, nF, nS, kA, fA, cA, gA, rfl, h.tape (fun a j q1 q2 q3 q4 q5 => (e0 a j q1 q3 q5).trans (eK a j q2 q4)) ⟨by omega, x11, x9, fun j hj => ?_⟩ (by omega), hr.keep (fun j => (e0 744 j (fun z => by unfold scr at z; omega) (by omega) (by omega)).trans (eK _ _ (by omega) (by omega))) (fun j => (e0 765 j (fun z => by unfold scr at z; omega) (by omega) (by omega)).trans (eK _ _ (by omega) (by omega)))⟩
    rw [e0 730 j (fun z => by unfold scr at z; omega) (by omega) (by omega), hf2 770 j (fun z => by unfold scr at z; omega), rd_ne (I' := u2 (u2 K 770 tp x1) 761 11 (nI (tp + 1))) rfl (by omega), rd_ne hK (by omega)]
    by_cases q : j = tp
    · subst q
      rw [rd_eq hK1, rd_eq (I' := u2 K 770 j x1) rfl]
    · rw [rd_nk hK1 q, rd_nk (I' := u2 K 770 tp x1) rfl q, eK 770 j (by omega) (by omega)]
      exact t4 j (by omega)
  · rw [hx] at cX
    exact SY.bad h hr (cX.imp (fun r h1 hq => by
      obtain ⟨K, R', q1, q2, q3, q4⟩ := hq
      exact ⟨K, R', q1, q2, q3, q4⟩)) (fun K R' hp he => (cM K R' hp he).imp (fun r2 h2 hq2 => by
      rw [hx] at hq2; exact hq2))
theorem s_wipe {n tp nt nk nP nF nS kA fA cA gA : Nat} {I : Nat → Nat → Int32} {R : Nat → Nat → Option Nat} {L : Nat → Nat → Int64} {sh : Nat → Nat × Nat} {N : Nat} (h : IVC n tp nt nk nP nF nS kA fA cA gA I R L sh N) (hr : RFS I) (hn : n ≤ 512)  : SY mi_X_wipe mi_M_wipe n (I, R, L, sh, N) [.ref 0] [.ref 761] := by
  obtain ⟨hS, hR, hN, h7⟩ := h.1
  obtain ⟨⟨hT, hTn⟩, hTd, ⟨hV, hV2⟩, ⟨hk1, hk2, hk3⟩, h9⟩ := h.2.1
  obtain ⟨⟨t1, t2, t3, t4⟩, tn⟩ := h.2.2.1
  obtain ⟨⟨hW, hWT, hKW, rk, hrk⟩, hD, hB⟩ := h.2.2.2.1
  obtain ⟨hH, hWS⟩ := h.2.2.2.2.2.1
  have cX : Mt mi_X_wipe 1100 0 0 [.ref 0] (I, R, L, sh, N) _ := c_X_wipe hS hR
  rw [t3] at cX
  have cM : ∀ K R', RPC n tp nt nk nP nF nS kA fA cA gA K R' sh N → EQS kA fA cA gA I K → Mt mi_M_wipe 1100 0 0 [.ref 761] (K, R', L, sh, N) (RQT K R' L sh N (o_wipe (nI tp)) (u2 K 761 11 (nI 0))) := fun K R' hp he => by
    obtain ⟨⟨hS', hR', hN', h7'⟩, ⟨⟨hT', hTn'⟩, -, ⟨hV', hV2'⟩, -, -⟩, ⟨h11, -, -⟩, ⟨hW', hWT', hKW', rk', hrk'⟩, hWS'⟩ := hp
    obtain ⟨e2, ⟨eK, eF, eC, eG⟩, ⟨e7, e8, e0⟩, ⟨e11, e3⟩, e4, e5⟩ := he
    have q : Mt mi_M_wipe 1100 0 0 [.ref 761] (K, R', L, sh, N) _ := c_M_wipe hS' hR' hT' hTn' hV' hk1 (by omega) hW' hrk'  (by omega)
    rw [h11] at q
    exact q
  refine ⟨0, 0, by omega, by omega, cX.imp (fun r h1 hq => ?_)⟩
  obtain ⟨K, R', rfl, rfl, rfl, hK⟩ := hq
  have eK : ∀ a j, ¬ (a = 0 ∧ j = 9) → K a j = I a j := fun a j q2 => rd_nn hK q2
  have hM : FrM sh I K := fun a j q _ => eK a j (by omega)
  have he := h.eqm hM
  refine ⟨0, 0, by omega, by omega, ⟨⟨_, rfl⟩, sh_761 hS⟩, (cM K _ (h.rpm hM hR (fun _ => rfl)) he).imp (fun r2 h2 hq2 => ?_)⟩
  obtain ⟨K2, rfl, rfl, hf2⟩ := hq2
  have hf2 : FrS (u2 K 761 11 (nI 0)) K2 := hf2
  have e0 : ∀ a j, ¬ scr a j → ¬ (a = 761 ∧ j = 11) → K2 a j = K a j := fun a j q1 q3 => (hf2 a j q1).trans (rd_nn rfl q3)
  have x9 : K2 0 9 = nI 0 := (e0 0 9 (fun z => by unfold scr at z; omega) (by omega)).trans (rd_eq hK)
  have x11 : K2 761 11 = nI 0 := (hf2 761 11 (fun z => by unfold scr at z; omega)).trans (rd_eq rfl)
  exact ⟨rfl, K2, _, _, sh, N, 0, nt, nk, nP, nF, nS, kA, fA, cA, gA, rfl, h.tape (fun a j q1 q2 q3 q4 q5 => (e0 a j q1 q5).trans (eK a j q4)) ⟨by omega, x11, x9, fun j hj => by omega⟩ (by omega), hr.keep (fun j => (e0 744 j (fun z => by unfold scr at z; omega) (by omega)).trans (eK _ _ (by omega))) (fun j => (e0 765 j (fun z => by unfold scr at z; omega) (by omega)).trans (eK _ _ (by omega)))⟩
theorem s_image {n tp nt nk nP nF nS kA fA cA gA : Nat} {I : Nat → Nat → Int32} {R : Nat → Nat → Option Nat} {L : Nat → Nat → Int64} {sh : Nat → Nat × Nat} {N : Nat} (h : IVC n tp nt nk nP nF nS kA fA cA gA I R L sh N) (hr : RFS I) (hn : n ≤ 512)  : SY mi_X_image mi_M_image n (I, R, L, sh, N) [.ref 0] [.ref 761] := by
  obtain ⟨hS, hR, hN, h7⟩ := h.1
  obtain ⟨⟨hT, hTn⟩, hTd, ⟨hV, hV2⟩, ⟨hk1, hk2, hk3⟩, h9⟩ := h.2.1
  obtain ⟨⟨t1, t2, t3, t4⟩, tn⟩ := h.2.2.1
  obtain ⟨⟨hW, hWT, hKW, rk, hrk⟩, hD, hB⟩ := h.2.2.2.1
  obtain ⟨hH, hWS⟩ := h.2.2.2.2.2.1
  have cX : Mt mi_X_image 1100 0 0 [.ref 0] (I, R, L, sh, N) _ := c_X_image hS hR hV hV2 (by omega) hW hWT hKW hrk hD (by omega)
  have cM : ∀ K R', RPC n tp nt nk nP nF nS kA fA cA gA K R' sh N → EQS kA fA cA gA I K → Mt mi_M_image 1100 0 0 [.ref 761] (K, R', L, sh, N) (RQT K R' L sh N (o_image) (u2 (cpy K 762 764 1182) 761 3 (nI 1))) := fun K R' hp he => by
    obtain ⟨⟨hS', hR', hN', h7'⟩, ⟨⟨hT', hTn'⟩, -, ⟨hV', hV2'⟩, -, -⟩, ⟨h11, -, -⟩, ⟨hW', hWT', hKW', rk', hrk'⟩, hWS'⟩ := hp
    obtain ⟨e2, ⟨eK, eF, eC, eG⟩, ⟨e7, e8, e0⟩, ⟨e11, e3⟩, e4, e5⟩ := he
    have q : Mt mi_M_image 1100 0 0 [.ref 761] (K, R', L, sh, N) _ := c_M_image hS' hR' hT' hTn' hV' hk1 (by omega) hW' hrk'  (by omega)
    exact q
  refine ⟨0, 0, by omega, by omega, cX.imp (fun r h1 hq => ?_)⟩
  obtain ⟨rfl, K1, K, R', rfl, hE, hK, hB2, hD1⟩ := hq
  have hdk : ∀ a, (dk 1 ≤ a ∧ a < dk 1 + 239) ↔ (240 ≤ a ∧ a < 479) := fun a => by unfold dk; omega
  have eK : ∀ a j, ¬ (240 ≤ a ∧ a < 479) → ¬ (a = 0 ∧ j = 3) → K a j = I a j := fun a j q1 q2 => (rd_nn hK q2).trans (hE a j (fun z => q1 ((hdk a).mp z)))
  have eR : ∀ a j, ¬ (240 ≤ a ∧ a < 479) → R' a j = R a j := fun a j q1 => hB2.1 a j (fun z => q1 ((hdk a).mp z))
  have hM : FrM sh I K := fun a j q _ => eK a j (by omega) (by omega)
  have he := h.eqm hM
  refine ⟨0, 0, by omega, by omega, ⟨⟨_, rfl⟩, sh_761 hS⟩, (cM K _ (h.rpm hM (hB2.2 hR) (fun j => eR 761 j (by omega))) he).imp (fun r2 h2 hq2 => ?_)⟩
  obtain ⟨K2, rfl, rfl, hf2⟩ := hq2
  have hf2 : FrS (u2 (cpy K 762 764 1182) 761 3 (nI 1)) K2 := hf2
  have e0 : ∀ a j, ¬ scr a j → a ≠ 764 → ¬ (a = 761 ∧ j = 3) → K2 a j = K a j := fun a j q1 q2 q3 => (hf2 a j q1).trans ((rd_nn rfl q3).trans (cpy_a q2))
  have e1 : ∀ a j, ¬ scr a j → a ≠ 764 → ¬ (a = 761 ∧ j = 3) → ¬ (240 ≤ a ∧ a < 479) → ¬ (a = 0 ∧ j = 3) → K2 a j = I a j := fun a j q1 q2 q3 q4 q5 => (e0 a j q1 q2 q3).trans (eK a j q4 q5)
  obtain ⟨n1, n2, n3, n4⟩ := hTn
  have er : ∀ a, a ≠ 764 → a ≠ 761 → ¬ (240 ≤ a ∧ a < 479) → a ≠ 0 → a ≠ 763 → ¬ (771 ≤ a ∧ a ≤ 776) → K2 a = I a := fun a q1 q2 q3 q4 q5 q6 => funext fun j => e1 a j (fun z => by unfold scr at z; omega) q1 (by omega) q3 (by omega)
  have er0 : ∀ a, a ≠ 764 → a ≠ 761 → a ≠ 763 → ¬ (771 ≤ a ∧ a ≤ 776) → K2 a = K a := fun a q1 q2 q3 q4 => funext fun j => e0 a j (fun z => by unfold scr at z; omega) q1 (by omega)
  have eT : K2 kA = I kA ∧ K2 fA = I fA ∧ K2 cA = I cA ∧ K2 gA = I gA := ⟨er _ (by omega) (by omega) (by omega) (by omega) (by omega) (by omega), er _ (by omega) (by omega) (by omega) (by omega) (by omega) (by omega), er _ (by omega) (by omega) (by omega) (by omega) (by omega) (by omega), er _ (by omega) (by omega) (by omega) (by omega) (by omega) (by omega)⟩
  have e61 : ∀ j, j = 9 ∨ j = 11 → K2 761 j = I 761 j := fun j hj => e1 761 j (fun z => by unfold scr at z; omega) (by omega) (by omega) (by omega) (by omega)
  have hJ7 : ∀ a j, 781 ≤ a → (sh a).1 ≠ 14 → K2 a j = I a j := fun a j q _ => by rw [er a (by omega) (by omega) (by omega) (by omega) (by omega) (by omega)]
  have hR7 : ∀ a j, 781 ≤ a → R' a j = R a j := fun a j q => eR a j (by omega)
  have e2 : K2 762 = I 762 := er _ (by omega) (by omega) (by omega) (by omega) (by omega) (by omega)
  have x3 : K2 0 3 = nI 1 := (e0 0 3 (fun z => by unfold scr at z; omega) (by omega) (by omega)).trans (rd_eq hK)
  have x61 : K2 761 3 = nI 1 := (hf2 761 3 (fun z => by unfold scr at z; omega)).trans (rd_eq rfl)
  have x4 : ∀ j, j < 1182 → K2 764 j = I 762 j := fun j hj => (hf2 764 j (fun z => by unfold scr at z; omega)).trans ((rd_ne rfl (by omega)).trans ((cpy_b hj).trans (eK 762 j (by omega) (by omega))))
  have hdsk := h.2.2.2.1
  have hD1' : DSK kA fA cA gA nt K R' sh 1 (I 762) (1000 * n) nP nF nS := ⟨hdsk.1, by rw [he.2.1.1, he.2.1.2.1, he.2.1.2.2.1, he.2.1.2.2.2]; exact hD1, hdsk.2.2⟩
  have eT2 : K2 kA = K kA ∧ K2 fA = K fA ∧ K2 cA = K cA ∧ K2 gA = K gA := ⟨er0 _ (by omega) (by omega) (by omega) (by omega), er0 _ (by omega) (by omega) (by omega) (by omega), er0 _ (by omega) (by omega) (by omega) (by omega), er0 _ (by omega) (by omega) (by omega) (by omega)⟩
  refine ⟨rfl, K2, _, _, sh, N, tp, nt, nk, nP, nF, nS, kA, fA, cA, gA, rfl, h.fin (hB2.2 hR) (fun j => eR 761 j (by omega)) hR7 eT (e61 9 (by omega)) hJ7 (h.2.2.1.1.fr (e61 11 (by omega)) (e1 0 9 (fun z => by unfold scr at z; omega) (by omega) (by omega) (by omega) (by omega)) (er _ (by omega) (by omega) (by omega) (by omega) (by omega) (by omega)) (er _ (by omega) (by omega) (by omega) (by omega) (by omega) (by omega))) (by omega) (hdsk.fr (by decide) hN eT hJ7 hR7 (fun a j x y => by unfold dk at x y; rw [er a (by omega) (by omega) (by omega) (by omega) (by omega) (by omega)]) (fun a j x y => by unfold dk at x y; exact eR a j (by omega)) (fun j _ => by rw [e2]) (by omega)) ⟨by rw [x3, x61], fun _ => ⟨nP, nF, nS, hD1'.fr (by decide) hN eT2 (fun a j q _ => by rw [er0 a (by omega) (by omega) (by omega) (by omega)]) (fun _ _ _ => rfl) (fun a j x y => by unfold dk at x y; rw [er0 a (by omega) (by omega) (by omega) (by omega)]) (fun _ _ _ _ => rfl) x4 (by omega)⟩⟩ (h.2.2.2.2.2.1.fr hN eT hJ7 hR7 (fun a j x y => by rw [er a (by omega) (by omega) (by omega) (by omega) (by omega) (by omega)]) (fun a j x y => eR a j (by omega)) (fun _ _ _ _ => rfl) (er _ (by omega) (by omega) (by omega) (by omega) (by omega) (by omega)) (er _ (by omega) (by omega) (by omega) (by omega) (by omega) (by omega)) (er _ (by omega) (by omega) (by omega) (by omega) (by omega) (by omega))), hr.keep (fun j => by rw [er 744 (by omega) (by omega) (by omega) (by omega) (by omega) (by omega)]) (fun j => by rw [er 765 (by omega) (by omega) (by omega) (by omega) (by omega) (by omega)])⟩
theorem s_back {n tp nt nk nP nF nS kA fA cA gA : Nat} {I : Nat → Nat → Int32} {R : Nat → Nat → Option Nat} {L : Nat → Nat → Int64} {sh : Nat → Nat × Nat} {N : Nat} (h : IVC n tp nt nk nP nF nS kA fA cA gA I R L sh N) (hr : RFS I) (hn : n ≤ 512)  : SY mi_X_back mi_M_back n (I, R, L, sh, N) [.ref 0] [.ref 761] := by
  obtain ⟨hS, hR, hN, h7⟩ := h.1
  obtain ⟨⟨hT, hTn⟩, hTd, ⟨hV, hV2⟩, ⟨hk1, hk2, hk3⟩, h9⟩ := h.2.1
  obtain ⟨⟨t1, t2, t3, t4⟩, tn⟩ := h.2.2.1
  obtain ⟨⟨hW, hWT, hKW, rk, hrk⟩, hD, hB⟩ := h.2.2.2.1
  obtain ⟨hH, hWS⟩ := h.2.2.2.2.2.1
  have cM : ∀ K R', RPC n tp nt nk nP nF nS kA fA cA gA K R' sh N → EQS kA fA cA gA I K → Mt mi_M_back 1100 0 0 [.ref 761] (K, R', L, sh, N) (RQT K R' L sh N (o_back (I 761 3)) (cpy K 764 762 1182)) := fun K R' hp he => by
    obtain ⟨⟨hS', hR', hN', h7'⟩, ⟨⟨hT', hTn'⟩, -, ⟨hV', hV2'⟩, -, -⟩, ⟨h11, -, -⟩, ⟨hW', hWT', hKW', rk', hrk'⟩, hWS'⟩ := hp
    obtain ⟨e2, ⟨eK, eF, eC, eG⟩, ⟨e7, e8, e0⟩, ⟨e11, e3⟩, e4, e5⟩ := he
    have q : Mt mi_M_back 1100 0 0 [.ref 761] (K, R', L, sh, N) _ := c_M_back hS' hR' hT' hTn' hV' hk1 (by omega) hW' hrk'  (by omega)
    rw [e3] at q
    exact q
  obtain ⟨i1, i2⟩ := h.2.2.2.2.1
  rw [← i1] at cM
  by_cases c : (I 0 3).toInt = 0
  · have hx : o_back (I 0 3) = .inr 3 := by unfold o_back; rw [if_pos c]
    have cX : Mt mi_X_back 1100 0 0 [.ref 0] (I, R, L, sh, N) _ := c_X_back (tK := I kA) (tF := I fA) (tC := I cA) (tS := I gA) (nt := nt) (G := I 764) (nP := 0) (nF := 0) (nS := 0) hS hR rfl (fun q => absurd c q) (fun q => absurd c q) (fun q => absurd c q) (by omega)
    rw [hx] at cX
    exact SY.bad h hr (cX.imp (fun r h1 hq => by
      obtain ⟨K, R', q1, q2, q3, q4⟩ := hq
      exact ⟨K, R', q1, q2, q3, q4⟩)) (fun K R' hp he => (cM K R' hp he).imp (fun r2 h2 hq2 => by
      rw [hx] at hq2; exact hq2))
  · have hx : o_back (I 0 3) = .inl (nI 1) := by unfold o_back; rw [if_neg c]
    obtain ⟨nP2, nF2, nS2, d1, d2, d3⟩ := i2 c
    have cX : Mt mi_X_back 1100 0 0 [.ref 0] (I, R, L, sh, N) _ := c_X_back hS hR rfl (fun _ => d1.1) (fun _ => d1.2.1.2.1) (fun _ => d2) (by omega)
    rw [hx] at cX
    refine ⟨0, 0, by omega, by omega, cX.imp (fun r h1 hq => ?_)⟩
    obtain ⟨K, R', rfl, rfl, hE, hB2, hD1⟩ := hq
    have hdk : ∀ a, (dk 0 ≤ a ∧ a < dk 0 + 239) ↔ (1 ≤ a ∧ a < 240) := fun a => by unfold dk; omega
    have eK : ∀ a j, ¬ (1 ≤ a ∧ a < 240) → K a j = I a j := fun a j q1 => hE a j (fun z => q1 ((hdk a).mp z))
    have eR : ∀ a j, ¬ (1 ≤ a ∧ a < 240) → R' a j = R a j := fun a j q1 => hB2.1 a j (fun z => q1 ((hdk a).mp z))
    have hM : FrM sh I K := fun a j q _ => eK a j (by omega)
    have he := h.eqm hM
    refine ⟨0, 0, by omega, by omega, ⟨⟨_, rfl⟩, sh_761 hS⟩, (cM K _ (h.rpm hM (hB2.2 hR) (fun j => eR 761 j (by omega))) he).imp (fun r2 h2 hq2 => ?_)⟩
    rw [hx] at hq2
    obtain ⟨K2, rfl, rfl, hf2⟩ := hq2
    have hf2 : FrS (cpy K 764 762 1182) K2 := hf2
    have e0 : ∀ a j, ¬ scr a j → a ≠ 762 → K2 a j = K a j := fun a j q1 q2 => (hf2 a j q1).trans (cpy_a q2)
    have e1 : ∀ a j, ¬ scr a j → a ≠ 762 → ¬ (1 ≤ a ∧ a < 240) → K2 a j = I a j := fun a j q1 q2 q3 => (e0 a j q1 q2).trans (eK a j q3)
    obtain ⟨n1, n2, n3, n4⟩ := hTn
    have er : ∀ a, a ≠ 762 → a ≠ 761 → ¬ (1 ≤ a ∧ a < 240) → a ≠ 763 → ¬ (771 ≤ a ∧ a ≤ 776) → K2 a = I a := fun a q1 q2 q3 q5 q6 => funext fun j => e1 a j (fun z => by unfold scr at z; omega) q1 q3
    have er0 : ∀ a, a ≠ 762 → a ≠ 761 → a ≠ 763 → ¬ (771 ≤ a ∧ a ≤ 776) → K2 a = K a := fun a q1 q2 q3 q4 => funext fun j => e0 a j (fun z => by unfold scr at z; omega) q1
    have eT : K2 kA = I kA ∧ K2 fA = I fA ∧ K2 cA = I cA ∧ K2 gA = I gA := ⟨er _ (by omega) (by omega) (by omega) (by omega) (by omega), er _ (by omega) (by omega) (by omega) (by omega) (by omega), er _ (by omega) (by omega) (by omega) (by omega) (by omega), er _ (by omega) (by omega) (by omega) (by omega) (by omega)⟩
    have e61 : ∀ j, j = 3 ∨ j = 9 ∨ j = 11 → K2 761 j = I 761 j := fun j hj => e1 761 j (fun z => by unfold scr at z; omega) (by omega) (by omega)
    have hJ7 : ∀ a j, 781 ≤ a → (sh a).1 ≠ 14 → K2 a j = I a j := fun a j q _ => by rw [er a (by omega) (by omega) (by omega) (by omega) (by omega)]
    have hR7 : ∀ a j, 781 ≤ a → R' a j = R a j := fun a j q => eR a j (by omega)
    have x2 : ∀ j, j < 1182 → K2 762 j = I 764 j := fun j hj => (hf2 762 j (fun z => by unfold scr at z; omega)).trans ((cpy_b hj).trans (eK 764 j (by omega)))
    have hD1' : DSK kA fA cA gA nt K R' sh 0 (I 764) (1000 * n) nP2 nF2 nS2 := ⟨d1, by rw [he.2.1.1, he.2.1.2.1, he.2.1.2.2.1, he.2.1.2.2.2]; exact hD1, d3⟩
    have eT2 : K2 kA = K kA ∧ K2 fA = K fA ∧ K2 cA = K cA ∧ K2 gA = K gA := ⟨er0 _ (by omega) (by omega) (by omega) (by omega), er0 _ (by omega) (by omega) (by omega) (by omega), er0 _ (by omega) (by omega) (by omega) (by omega), er0 _ (by omega) (by omega) (by omega) (by omega)⟩
    have z0 : K2 0 = I 0 := er 0 (by omega) (by omega) (by omega) (by omega) (by omega)
    refine ⟨rfl, K2, _, _, sh, N, tp, nt, nk, nP2, nF2, nS2, kA, fA, cA, gA, rfl, h.fin (hB2.2 hR) (fun j => eR 761 j (by omega)) hR7 eT (e61 9 (by omega)) hJ7 (h.2.2.1.1.fr (e61 11 (by omega)) (by rw [z0]) (er _ (by omega) (by omega) (by omega) (by omega) (by omega)) (er _ (by omega) (by omega) (by omega) (by omega) (by omega))) (by omega) (hD1'.fr (by decide) hN eT2 (fun a j q _ => by rw [er0 a (by omega) (by omega) (by omega) (by omega)]) (fun _ _ _ => rfl) (fun a j x y => by unfold dk at x y; rw [er0 a (by omega) (by omega) (by omega) (by omega)]) (fun _ _ _ _ => rfl) x2 (by omega)) (h.2.2.2.2.1.fr hN eT hJ7 hR7 (fun a j x y => by rw [er a (by omega) (by omega) (by omega) (by omega) (by omega)]) (fun a j x y => eR a j (by omega)) (by rw [z0]) (e61 3 (by omega)) (er _ (by omega) (by omega) (by omega) (by omega) (by omega)) (by omega)) (h.2.2.2.2.2.1.fr hN eT hJ7 hR7 (fun a j x y => by rw [er a (by omega) (by omega) (by omega) (by omega) (by omega)]) (fun a j x y => eR a j (by omega)) (fun _ _ _ _ => rfl) (er _ (by omega) (by omega) (by omega) (by omega) (by omega)) (er _ (by omega) (by omega) (by omega) (by omega) (by omega)) (er _ (by omega) (by omega) (by omega) (by omega) (by omega))), hr.keep (fun j => by rw [er 744 (by omega) (by omega) (by omega) (by omega) (by omega)]) (fun j => by rw [er 765 (by omega) (by omega) (by omega) (by omega) (by omega)])⟩
