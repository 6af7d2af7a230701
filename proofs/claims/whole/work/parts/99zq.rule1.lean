/-! THE LAW'S CALLS: rule, what both of its ways have in common -/
theorem rule_common {n tp nt nk nP nF nS kA fA cA gA q nk' : Nat} {I J K I1 : Nat → Nat → Int32} {R R1 R2 : Nat → Nat → Option Nat} {L L1 L2 : Nat → Nat → Int64} {sh sh1 sh2 : Nat → Nat × Nat} {N N1 N2 : Nat} {T : Nat → Int32} {m : List Nd} {A2 : A4} (h : IVC n tp nt nk nP nF nS kA fA cA gA I R L sh N) (hn : n ≤ 512)
    (hN1 : N ≤ N1) (q1 : ∀ a j, (240 ≤ a ∧ a < 479) ∨ a = 730 ∨ (745 ≤ a ∧ a < 781) ∨ (781 ≤ a ∧ a < N ∧ (sh a).1 = 12) → J a j = I a j) (q0 : J 0 3 = I 0 3) (q9 : J 0 9 = nI 0) (qs : ∀ a, a < N → sh1 a = sh a) (qR : ∀ a j, (240 ≤ a ∧ a < 479) ∨ (745 ≤ a ∧ a < N) → R1 a j = R a j) (qL : ∀ a j, 745 ≤ a → a < 781 → L1 a j = L a j)
    (hm : MS (J, R1, L1, sh1, N1) (kA, fA, cA, gA) nt tp T q nk' m A2 (I1, R2, L2, sh2, N2)) (hk : nk' = gN nk (nt + m.length)) (hv : NV m) (hl : m.length ≤ tp)
    (z1 : ∀ a i, ¬ (a = 761 ∧ i = 11) → a ≠ 765 → a ≠ 762 → K a i = I1 a i) (z2 : K 761 11 = nI 0) :
    BAS R2 sh2 N2 ∧ TRS A2.1 A2.2.1 A2.2.2.1 A2.2.2.2 nk' (nt + m.length) K R2 sh2 ∧ GRW (I kA) (I fA) (I cA) (I gA) (K A2.1) (K A2.2.1) (K A2.2.2.1) (K A2.2.2.2) nt (nt + m.length) ∧ TPE 0 K ∧ IMG A2.1 A2.2.1 A2.2.2.1 A2.2.2.2 (nt + m.length) K R2 sh2 (1000 * ((n + 1 : Nat) : Int)) ∧ SHE A2.1 A2.2.1 A2.2.2.1 A2.2.2.2 (nt + m.length) K R2 L2 sh2 ∧ (∀ a, a < N → sh2 a = sh a) ∧ (∀ a j, 781 ≤ a → a < N → (sh a).1 = 12 → (sh a).2 ≤ 250 → K a j = I a j) ∧ (∀ a j, 781 ≤ a → a < N → R2 a j = R a j) ∧ NIN (K A2.1) (K A2.2.1) (K A2.2.2.1) (K A2.2.2.2) nt m ∧ (∀ a j, a < 781 → a ≠ 761 → a ≠ 765 → a ≠ 762 → a ≠ 771 → ¬ (766 ≤ a ∧ a ≤ 769) → K a j = J a j) ∧ (∀ a j, 781 ≤ a → a < N1 → (sh1 a).1 = 12 → (sh1 a).2 ≤ 250 → K a j = J a j) ∧ (∀ a j, a < N1 → a ≠ 761 → R2 a j = R1 a j) ∧ (∀ a, a < N1 → sh2 a = sh1 a) ∧ (∀ a, N1 ≤ a → (sh2 a).1 ≠ 1) ∧ (∀ j, I1 765 j = J 765 j ∧ I1 762 j = J 762 j) := by
  obtain ⟨⟨hS, hR, hN, h7⟩, ⟨⟨hT, hTn⟩, hTd, ⟨hV, hV2⟩, ⟨hk1, hk2, hk3⟩, h9⟩, ⟨⟨t1, t2, t3, t4⟩, tn⟩, hdsk, himg, hshe, hly⟩ := h
  obtain ⟨r1, r2, r3, r4, s1, s2, s3, s4⟩ := id hT
  obtain ⟨n1, n2, n3, n4⟩ := id hTn
  obtain ⟨⟨m11, m12, m9⟩, mT, mR, ⟨mk1, mk2⟩, ⟨mN, mN4⟩, mB, ⟨mA1, mA2, mA3, mA4⟩, ⟨y1, y2, y3, y4, y5, y6, y7, y8⟩, mS, mRf, mZ⟩ := hm
  dsimp only at m11 m12 m9 mT mR mk1 mk2 mN mN4 mB mA1 mA2 mA3 mA4 y1 y2 y3 y4 y5 y6 y7 y8 mS mRf mZ
  obtain ⟨a1, a2, a3, a4⟩ := id mA3
  have kN : kA < N := hN.lt s1 (by decide)
  have fN : fA < N := hN.lt s2 (by decide)
  have cN : cA < N := hN.lt s3 (by decide)
  have gN' : gA < N := hN.lt s4 (by decide)
  have eT : K A2.1 = I1 A2.1 ∧ K A2.2.1 = I1 A2.2.1 ∧ K A2.2.2.1 = I1 A2.2.2.1 ∧ K A2.2.2.2 = I1 A2.2.2.2 := ⟨funext fun j => z1 _ j (by omega) (by omega) (by omega), funext fun j => z1 _ j (by omega) (by omega) (by omega), funext fun j => z1 _ j (by omega) (by omega) (by omega), funext fun j => z1 _ j (by omega) (by omega) (by omega)⟩
  -- rows below the trees
  have eLo : ∀ a j, a < 781 → a ≠ 761 → a ≠ 765 → a ≠ 762 → a ≠ 771 → ¬ (766 ≤ a ∧ a ≤ 769) → K a j = J a j := fun a j p1 p2 p3 p4 p5 p6 => (z1 a j (by omega) p3 p4).trans (y1 a j (by omega) p2 (by omega) (by omega) (by omega) (by omega) p5)
  have e61 : ∀ j, j = 3 → K 761 j = I 761 j := fun j hj => (z1 761 j (by omega) (by omega) (by omega)).trans ((y2 j (by omega) (by omega) (by omega)).trans (q1 761 j (by omega)))
  have eHi : ∀ a j, 781 ≤ a → a < N → (sh a).1 = 12 → (sh a).2 ≤ 250 → K a j = I a j := fun a j p1 p2 p3 p4 => by
    have d1 : a ≠ kA := fun e => by rw [e, s1] at p4; dsimp only at p4; omega
    have d2 : a ≠ fA := fun e => by rw [e, s2] at p4; dsimp only at p4; omega
    have d3 : a ≠ cA := fun e => by rw [e, s3] at p4; dsimp only at p4; omega
    have d4 : a ≠ gA := fun e => by rw [e, s4] at p4; dsimp only at p4; omega
    exact (z1 a j (by omega) (by omega) (by omega)).trans ((y1 a j (by omega) (by omega) d1 d2 d3 d4 (by omega)).trans (q1 a j (Or.inr (Or.inr (Or.inr ⟨p1, p2, p3⟩)))))
  have eMd : ∀ a j, 781 ≤ a → a < N1 → (sh1 a).1 = 12 → (sh1 a).2 ≤ 250 → K a j = J a j := fun a j p1 p2 p3 p4 => by
    have d1 : a ≠ kA := fun e => by rw [e, qs kA kN, s1] at p4; dsimp only at p4; omega
    have d2 : a ≠ fA := fun e => by rw [e, qs fA fN, s2] at p4; dsimp only at p4; omega
    have d3 : a ≠ cA := fun e => by rw [e, qs cA cN, s3] at p4; dsimp only at p4; omega
    have d4 : a ≠ gA := fun e => by rw [e, qs gA gN', s4] at p4; dsimp only at p4; omega
    exact (z1 a j (by omega) (by omega) (by omega)).trans (y1 a j (by omega) (by omega) d1 d2 d3 d4 (by omega))
  have eSh : ∀ a, a < N → sh2 a = sh a := fun a p => (y5 a (by omega)).trans (qs a p)
  have eR : ∀ a j, (240 ≤ a ∧ a < 479) ∨ (745 ≤ a ∧ a < N ∧ a ≠ 761) → R2 a j = R a j := fun a j p => (y3 a j (by omega) (by omega)).trans (qR a j (by omega))
  have tJ : ∀ a j, (766 ≤ a ∧ a ≤ 769) ∨ (781 ≤ a ∧ a < N ∧ (sh a).1 = 12) → J a j = I a j := fun a j p => by
    rcases p with p | p
    · exact q1 a j (by omega)
    · exact q1 a j (Or.inr (Or.inr (Or.inr p)))
  have hG : GRW (I kA) (I fA) (I cA) (I gA) (K A2.1) (K A2.2.1) (K A2.2.2.1) (K A2.2.2.2) nt (nt + m.length) := by
    refine ⟨by omega, fun j hj => ?_⟩
    rw [eT.1, eT.2.1, eT.2.2.1, eT.2.2.2]
    obtain ⟨b1, b2, b3, b4⟩ := mB j hj
    rw [b1, b2, b3, b4]
    refine ⟨tJ kA j ?_, tJ fA j ?_, tJ cA j ?_, tJ gA j ?_⟩
    · have : (sh kA).1 = 12 := by rw [s1]
      omega
    · have : (sh fA).1 = 12 := by rw [s2]
      omega
    · have : (sh cA).1 = 12 := by rw [s3]
      omega
    · have : (sh gA).1 = 12 := by rw [s4]
      omega
  have hNIN : NIN (K A2.1) (K A2.2.1) (K A2.2.2.1) (K A2.2.2.2) nt m := by rw [eT.1, eT.2.1, eT.2.2.1, eT.2.2.2]; exact mN
  have hTV := hV.grow hG.2 hNIN hv (by omega) (by omega) (fun j hj q => by rw [eT.2.1, mN4 j hj q]; decide)
  have hTV2 := hV2.grow hG.2 hNIN hv (by omega) (by omega)
  have knk : 256 ≤ nk' ∧ nk' ≤ 2000 := by
    rw [hk]; unfold gN; split <;> omega
  have e9 : K 761 9 = nI (nt + m.length) := (z1 761 9 (by omega) (by omega) (by omega)).trans m9
  have e7 : K 777 = I 777 := funext fun j => (eLo 777 j (by omega) (by omega) (by omega) (by omega) (by omega) (by omega)).trans (q1 777 j (by omega))
  have e8 : K 778 = I 778 := funext fun j => (eLo 778 j (by omega) (by omega) (by omega) (by omega) (by omega) (by omega)).trans (q1 778 j (by omega))
  have e0 : K 780 = I 780 := funext fun j => (eLo 780 j (by omega) (by omega) (by omega) (by omega) (by omega) (by omega)).trans (q1 780 j (by omega))
  have e4 : K 764 = I 764 := funext fun j => (eLo 764 j (by omega) (by omega) (by omega) (by omega) (by omega) (by omega)).trans (q1 764 j (by omega))
  have x03 : K 0 3 = I 0 3 := (eLo 0 3 (by omega) (by omega) (by omega) (by omega) (by omega) (by omega)).trans q0
  have x09 : K 0 9 = nI 0 := (eLo 0 9 (by omega) (by omega) (by omega) (by omega) (by omega) (by omega)).trans q9
  refine ⟨⟨mS, mRf, y7, by omega⟩, ⟨⟨mR, mA3⟩, mA2, ⟨hTV, hTV2⟩, ⟨by omega, knk.1, knk.2⟩, e9⟩, hG, ⟨by omega, z2, x09, fun j hj => by omega⟩, ⟨by rw [x03, e61 3 rfl]; exact himg.1, fun qq => ?_⟩, hshe.gg hG hN eSh eHi (fun a j p1 p2 => eR a j (by omega)) (fun a j p1 p2 => (eLo a j (by omega) (by omega) (by omega) (by omega) (by omega) (by omega)).trans (q1 a j (by omega))) (fun a j p1 p2 => eR a j (by omega)) (fun a j p1 p2 => (y4 a j (by omega)).trans (qL a j p1 p2)) e7 e8 e0, eSh, eHi, fun a j p1 p2 => eR a j (by omega), hNIN, eLo, eMd, fun a j p1 p2 => y3 a j p1 (by omega), y5, y8, fun j => ⟨y1 765 j (by omega) (by omega) (by omega) (by omega) (by omega) (by omega) (by omega), y1 762 j (by omega) (by omega) (by omega) (by omega) (by omega) (by omega) (by omega)⟩⟩
  rw [x03] at qq
  obtain ⟨p1, p2, p3, hd⟩ := himg.2 qq
  refine ⟨p1, p2, p3, hd.gg (by decide) hG hN eSh eHi (fun a j p1 p2 => eR a j (by omega)) (fun a j p1 p2 => ?_) (fun a j p1 p2 => ?_) (fun j _ => by rw [e4]) (by omega)⟩
  · unfold dk at p1 p2
    exact (eLo a j (by omega) (by omega) (by omega) (by omega) (by omega) (by omega)).trans (q1 a j (by omega))
  · unfold dk at p1 p2
    exact eR a j (by omega)
