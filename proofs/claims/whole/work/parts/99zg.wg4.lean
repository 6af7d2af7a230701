/-! THE ROW G STAYS SOUND, fourth: feature, person, gone, rule -/
theorem WFF.nF {G : Nat → Int32} {nF nF' nt F : Nat} (h : WFF G nF nt F) (hn : nF ≤ nF') : WFF G nF' nt F := by
  obtain ⟨w0, w1, w2, w3, w4, w5, w6, w7, w8, w9, wN, wR, wK, wO⟩ := h
  refine ⟨w0, w1, w2, w3, w4, w5, w6, w7, w8, w9, fun n hn => ?_, wR, wK, wO⟩
  obtain ⟨⟨a, b⟩, c⟩ := wN n hn
  exact ⟨⟨a, by omega⟩, c⟩
theorem w_feature {G : Nat → Int32} {nt nP nF nS : Nat} {n v : Int32} (h : WG G nt nP nF nS) (e : o_feature nF n = .inl v) : WG (g_feature G nF n) nt nP (nF + 1) nS ∧ g_feature G nF n 3 = G 3 := by
  obtain ⟨hA, hT, hK, rk, hr⟩ := h
  obtain ⟨hPc, hP24, hFc, hF12, hWF, hWP⟩ := id hA
  have hG3 := hK.2.2.2
  unfold o_feature at e
  unfold g_feature
  split
  · rename_i c
    rw [if_pos c] at e
    split
    · rename_i d; rw [if_pos d] at e; cases e
    · rename_i d
      have n12 : nF < 12 := by omega
      have ho : ∀ j, j ≠ 1 → (j < 174 + 84 * nF ∨ 174 + 84 * nF + 84 ≤ j) → u1 (u1 (u1 (fil G (174 + 84 * nF + 0) (174 + 84 * nF + 84) (nI 0)) (174 + 84 * nF + 0) n) (174 + 84 * nF + 7) (-1)) 1 (nI (nF + 1)) j = G j := fun j h1 h2 => by rw [u1_o h1, u1_o (by omega), u1_o (by omega), fil_o (by omega)]
      have e1 : u1 (u1 (u1 (fil G (174 + 84 * nF + 0) (174 + 84 * nF + 84) (nI 0)) (174 + 84 * nF + 0) n) (174 + 84 * nF + 7) (-1)) 1 (nI (nF + 1)) 1 = nI (nF + 1) := u1_i
      have e0 : u1 (u1 (u1 (fil G (174 + 84 * nF + 0) (174 + 84 * nF + 84) (nI 0)) (174 + 84 * nF + 0) n) (174 + 84 * nF + 7) (-1)) 1 (nI (nF + 1)) (174 + 84 * nF + 0) = n := by rw [u1_o (by omega), u1_o (by omega), u1_i]
      have e7 : u1 (u1 (u1 (fil G (174 + 84 * nF + 0) (174 + 84 * nF + 84) (nI 0)) (174 + 84 * nF + 0) n) (174 + 84 * nF + 7) (-1)) 1 (nI (nF + 1)) (174 + 84 * nF + 7) = -1 := by rw [u1_o (by omega), u1_i]
      have ez : ∀ w, w < 84 → w ≠ 0 → w ≠ 7 → u1 (u1 (u1 (fil G (174 + 84 * nF + 0) (174 + 84 * nF + 84) (nI 0)) (174 + 84 * nF + 0) n) (174 + 84 * nF + 7) (-1)) 1 (nI (nF + 1)) (174 + 84 * nF + w) = nI 0 := fun w h1 h2 h3 => by rw [u1_o (by omega), u1_o (by omega), u1_o (by omega), fil_i (by omega)]
      generalize u1 (u1 (u1 (fil G (174 + 84 * nF + 0) (174 + 84 * nF + 84) (nI 0)) (174 + 84 * nF + 0) n) (174 + 84 * nF + 7) (-1)) 1 (nI (nF + 1)) = G' at ho e1 e0 e7 ez ⊢
      have z0 : (nI 0).toInt = 0 := rfl
      have n5 : nNof G' nF = 0 := by unfold nNof; rw [ez 5 (by omega) (by omega) (by omega)]; rfl
      have n6 : nOof G' nF = 0 := by unfold nOof; rw [ez 6 (by omega) (by omega) (by omega)]; rfl
      have hwn : WFF G' (nF + 1) nt nF := by
        refine ⟨by rw [e0]; exact c, by rw [ez 1 (by omega) (by omega) (by omega), z0]; omega, by rw [ez 2 (by omega) (by omega) (by omega), z0]; omega, by rw [ez 3 (by omega) (by omega) (by omega), z0]; omega, by rw [ez 4 (by omega) (by omega) (by omega), z0]; omega, by rw [ez 5 (by omega) (by omega) (by omega), z0]; omega, by rw [ez 6 (by omega) (by omega) (by omega), z0]; omega, by rw [e7]; decide, by rw [ez 8 (by omega) (by omega) (by omega), z0]; omega, by rw [ez 9 (by omega) (by omega) (by omega), z0]; omega, fun m hm => ?_, fun m hm => ?_, fun m hm => ?_, fun m hm => ?_⟩
        · rw [ez 5 (by omega) (by omega) (by omega), z0] at hm; omega
        · rw [ez 4 (by omega) (by omega) (by omega), z0] at hm; omega
        · rw [ez (36 + m) (by omega) (by omega) (by omega), z0]; omega
        · rw [ez 6 (by omega) (by omega) (by omega), z0] at hm; omega
      have hE : ∀ E, E < nF → ∀ w, w < 84 → G' (174 + 84 * E + w) = G (174 + 84 * E + w) := fun E hE w hw => ho _ (by omega) (by omega)
      refine ⟨⟨⟨by rw [ho 0 (by omega) (by omega)]; exact hPc, hP24, e1, by omega, fun E hE2 => ?_, fun p hp => by rw [ho _ (by omega) (by omega), ho _ (by omega) (by omega)]; exact hWP p hp⟩, ⟨by rw [ho 2 (by omega) (by omega)]; exact hT.1, hT.2.1, fun i hi => ?_⟩, ⟨fun p q hp hq z => hK.1 p q hp hq (by rw [ho _ (by omega) (by omega), ho _ (by omega) (by omega)] at z; exact z), fun E hE2 k hk => ?_, fun E hE2 p h1 h2 => ?_, by rw [ho 3 (by omega) (by omega)]; exact hG3⟩, RK_of (by omega) (r := fun E => if E = nF then 0 else rk E) (fun E hE2 m hm => ?_)⟩, ho 3 (by omega) (by omega)⟩
      · by_cases q : E = nF
        · subst q; exact hwn
        · exact (WFF_congr (hE E (by omega)) (hWF E (by omega))).nF (by omega)
      · have hS24 := hT.2.1
        obtain ⟨t0, ⟨t1, t2⟩, t3⟩ := hT.2.2 i hi
        rw [ho _ (by omega) (by omega), ho _ (by omega) (by omega), ho _ (by omega) (by omega), ho _ (by omega) (by omega), ho _ (by omega) (by omega)]
        exact ⟨t0, ⟨t1, by omega⟩, t3⟩
      · by_cases q : E = nF
        · subst q; rw [n6] at hk; omega
        · have en : nOof G' E = nOof G E := by unfold nOof; rw [hE E (by omega) 6 (by omega)]
          obtain ⟨nE, bE, cE⟩ := nO_of (hWF E (by omega))
          have en2 : nOof G E = nE := by unfold nOof; rw [bE]; omega
          rw [en] at hk ⊢
          obtain ⟨⟨p, hp, z⟩, z2⟩ := hK.2.1 E (by omega) k hk
          refine ⟨⟨p, hp, by rw [ho _ (by omega) (by omega), hE E (by omega) (20 + 2 * k) (by omega)]; exact z⟩, fun j hj y => z2 j hj ?_⟩
          rw [hE E (by omega) (20 + 2 * j) (by omega), hE E (by omega) (20 + 2 * k) (by omega)] at y; exact y
      · by_cases q : E = nF
        · subst q; exact ez _ (by omega) (by omega) (by omega)
        · rw [hE E (by omega) (36 + p) (by omega)]; exact hK.2.2.1 E (by omega) p h1 h2
      · by_cases q : E = nF
        · subst q; rw [n5] at hm; omega
        · have en : nNof G' E = nNof G E := by unfold nNof; rw [hE E (by omega) 5 (by omega)]
          obtain ⟨nE, bE, cE⟩ := nN_of (hWF E (by omega))
          have en2 : nNof G E = nE := by unfold nNof; rw [bE]; omega
          rw [en] at hm
          have ed : ndF G' E m = ndF G E m := by unfold ndF; rw [hE E (by omega) (14 + 2 * m) (by omega)]
          obtain ⟨r1, r2⟩ := (hr E (by omega)).2 m hm
          rw [ed]
          try dsimp only
          rw [if_neg (by omega), if_neg q]
          exact ⟨by omega, r2⟩
  · rename_i c
    rw [if_neg c] at e; cases e
theorem n_feature {G : Nat → Int32} {nF : Nat} {n : Int32} {j : Nat} (e : o_feature nF n = .inr j) : g_feature G nF n = G := by
  unfold g_feature
  split
  · rename_i c
    split
    · rfl
    · rename_i d
      unfold o_feature at e; rw [if_pos c, if_neg d] at e; cases e
  · rfl
theorem w_person {G : Nat → Int32} {nt nP nF nS : Nat} {key att v : Int32} (h : WG G nt nP nF nS) (e : o_person G nP key att = .inl v) : WG (g_person G nP key att) nt (nPs G nP key) nF nS ∧ g_person G nP key att 3 = G 3 := by
  obtain ⟨hA, hT, hK, rk, hr⟩ := h
  obtain ⟨hPc, hP24, hFc, hF12, hWF, hWP⟩ := id hA
  have hG3 := hK.2.2.2
  have hS24 := hT.2.1
  unfold o_person at e
  unfold g_person nPs
  split
  · rename_i c
    rw [if_pos c] at e
    obtain ⟨c1, c2, c3⟩ := c
    rcases z : pB G nP key with _ | p
    · rw [z] at e
      have hno := fst1_not z
      dsimp only at e ⊢
      split
      · rename_i d; rw [if_pos d] at e; cases e
      · rename_i d
        have n24 : nP < 24 := by omega
        have ho : ∀ j, j ≠ 0 → j ≠ 6 + 2 * nP → j ≠ 6 + 2 * nP + 1 → (j < 174 ∨ (j - 174) % 84 ≠ 36 + nP) → u1 (kz (u1 (u1 G 0 (nI (nP + 1))) (6 + 2 * nP) key) nP 12) (6 + 2 * nP + 1) att j = G j := fun j h1 h2 h3 h4 => by rw [u1_o h3, kz_o h4, u1_o h2, u1_o h1]
        have e0 : u1 (kz (u1 (u1 G 0 (nI (nP + 1))) (6 + 2 * nP) key) nP 12) (6 + 2 * nP + 1) att 0 = nI (nP + 1) := by rw [u1_o (by omega), kz_o (by omega), u1_o (by omega), u1_i]
        have ek : u1 (kz (u1 (u1 G 0 (nI (nP + 1))) (6 + 2 * nP) key) nP 12) (6 + 2 * nP + 1) att (6 + 2 * nP) = key := by rw [u1_o (by omega), kz_o (by omega), u1_i]
        have ea : u1 (kz (u1 (u1 G 0 (nI (nP + 1))) (6 + 2 * nP) key) nP 12) (6 + 2 * nP + 1) att (6 + 2 * nP + 1) = att := u1_i
        have ez : ∀ E, E < 12 → u1 (kz (u1 (u1 G 0 (nI (nP + 1))) (6 + 2 * nP) key) nP 12) (6 + 2 * nP + 1) att (174 + 84 * E + (36 + nP)) = nI 0 := fun E hE => by rw [u1_o (by omega), kz_i hE n24]
        generalize u1 (kz (u1 (u1 G 0 (nI (nP + 1))) (6 + 2 * nP) key) nP 12) (6 + 2 * nP + 1) att = G' at ho e0 ek ea ez ⊢
        have hE : ∀ E, E < nF → ∀ w, w < 84 → w ≠ 36 + nP → G' (174 + 84 * E + w) = G (174 + 84 * E + w) := fun E hE w hw h2 => ho _ (by omega) (by omega) (by omega) (by omega)
        refine ⟨⟨⟨e0, by omega, by rw [ho 1 (by omega) (by omega) (by omega) (by omega)]; exact hFc, hF12, fun E hE2 => (hWF E hE2).puk (fun w hw => hE E hE2 w (by omega) (by omega)) (fun p hp => ?_), fun p hp => ?_⟩, WFT_congr hT (fun j hj => ho j (by omega) (by omega) (by omega) (by omega)), ⟨fun p q hp hq y => ?_, fun E hE2 k hk => ?_, fun E hE2 p h1 h2 => ?_, by rw [ho 3 (by omega) (by omega) (by omega) (by omega)]; exact hG3⟩, rk, RK_congr hA (fun E hE2 w hw => hE E hE2 w (by omega) (by omega)) hr⟩, ho 3 (by omega) (by omega) (by omega) (by omega)⟩
        · by_cases q : p = nP
          · subst q; rw [ez E (by omega)]; decide
          · rw [hE E hE2 _ (by omega) (by omega)]
            obtain ⟨-, -, -, -, -, -, -, -, -, -, -, -, wK, -⟩ := hWF E hE2
            exact wK p hp
        · by_cases q : p = nP
          · subst q; rw [ek, ea]; exact ⟨⟨c2, c3⟩, c1⟩
          · rw [ho _ (by omega) (by omega) (by omega) (by omega), ho _ (by omega) (by omega) (by omega) (by omega)]; exact hWP p (by omega)
        · by_cases q1 : p = nP
          · by_cases q2 : q = nP
            · omega
            · subst q1
              rw [ek, ho (6 + 2 * q) (by omega) (by omega) (by omega) (by omega)] at y
              exact absurd y.symm (of_decide_eq_false (hno q (by omega)))
          · by_cases q2 : q = nP
            · subst q2
              rw [ek, ho (6 + 2 * p) (by omega) (by omega) (by omega) (by omega)] at y
              exact absurd y (of_decide_eq_false (hno p (by omega)))
            · rw [ho _ (by omega) (by omega) (by omega) (by omega), ho _ (by omega) (by omega) (by omega) (by omega)] at y
              exact hK.1 p q (by omega) (by omega) y
        · have en : nOof G' E = nOof G E := by unfold nOof; rw [hE E hE2 6 (by omega) (by omega)]
          obtain ⟨nE, bE, cE⟩ := nO_of (hWF E hE2)
          have en2 : nOof G E = nE := by unfold nOof; rw [bE]; omega
          rw [en] at hk ⊢
          obtain ⟨⟨p, hp, z⟩, z2⟩ := hK.2.1 E hE2 k hk
          refine ⟨⟨p, by omega, by rw [ho _ (by omega) (by omega) (by omega) (by omega), hE E hE2 (20 + 2 * k) (by omega) (by omega)]; exact z⟩, fun j hj y => z2 j hj ?_⟩
          rw [hE E hE2 (20 + 2 * j) (by omega) (by omega), hE E hE2 (20 + 2 * k) (by omega) (by omega)] at y; exact y
        · rw [hE E hE2 (36 + p) (by omega) (by omega)]; exact hK.2.2.1 E hE2 p (by omega) h2
    · have hp : p < nP := (fst1_spec z).1
      dsimp only
      have ho : ∀ j, j ≠ 6 + 2 * p + 1 → u1 G (6 + 2 * p + 1) att j = G j := fun j h1 => u1_o h1
      refine ⟨⟨⟨by rw [ho 0 (by omega)]; exact hPc, hP24, by rw [ho 1 (by omega)]; exact hFc, hF12, fun E hE2 => WFF_congr (fun w hw => ho _ (by omega)) (hWF E hE2), fun q hq => ?_⟩, WFT_congr hT (fun j hj => ho j (by omega)), WFK_congr hA hK (fun q hq => ho _ (by omega)) (fun E hE w hw => ho _ (by omega)) (by rw [ho 3 (by omega)]; exact hG3), rk, RK_congr hA (fun E hE w hw => ho _ (by omega)) hr⟩, ho 3 (by omega)⟩
      rw [ho (6 + 2 * q) (by omega)]
      by_cases y : q = p
      · subst y; rw [u1_i]; exact ⟨⟨c2, c3⟩, (hWP q hq).2⟩
      · rw [ho _ (by omega)]; exact hWP q hq
  · rename_i c
    rw [if_neg c] at e; cases e
theorem n_person {G : Nat → Int32} {nP : Nat} {key att : Int32} {j : Nat} (e : o_person G nP key att = .inr j) : g_person G nP key att = G := by
  unfold g_person
  split
  · rename_i c
    unfold o_person at e; rw [if_pos c] at e
    rcases z : pB G nP key with _ | p
    · rw [z] at e
      dsimp only at e ⊢
      split
      · rfl
      · rename_i d; rw [if_neg d] at e; cases e
    · rw [z] at e; cases e
  · rfl
/-- overrides behind gone: those of other keys, in their order -/
theorem gone0_ov {G : Nat → Int32} {nF nt nP E : Nat} {key : Int32} (hw : WFF G nF nt E) (hK : ∀ k, k < nOof G E → ∀ j, j < nOof G E → G (174 + 84 * E + (20 + 2 * j)) = G (174 + 84 * E + (20 + 2 * k)) → j = k) : WFF (gone0 G key E) nF nt E ∧ nOof (gone0 G key E) E ≤ 8 ∧ ∃ m : Nat → Nat, ∀ j, j < nOof (gone0 G key E) E → m j < nOof G E ∧ gone0 G key E (174 + 84 * E + (20 + 2 * j)) = G (174 + 84 * E + (20 + 2 * m j)) ∧ G (174 + 84 * E + (20 + 2 * m j)) ≠ key ∧ ∀ i, i < nOof (gone0 G key E) E → m i = m j → i = j := by
  obtain ⟨nO, b6, c6⟩ := nO_of hw
  have en : nOof G E = nO := by unfold nOof; rw [b6]; omega
  rw [en] at hK ⊢
  unfold gone0
  rw [b6, Int.toNat_natCast]
  rcases z : oB G E nO key with _ | k
  · dsimp only
    rw [en]
    exact ⟨hw, c6, id, fun j hj => ⟨hj, rfl, of_decide_eq_false (fst1_not z j hj), fun i hi y => y⟩⟩
  · dsimp only
    obtain ⟨hk, hkk, -⟩ := fst1_spec z
    have hkk := of_decide_eq_true hkk
    obtain ⟨ho, e6, ix⟩ := loses_at (k := k) b6
    have en2 : nOof (g_loses G E k) E = nO - 1 := by unfold nOof; rw [e6, nI_toInt (by omega)]; omega
    rw [en2]
    refine ⟨WFF_loses hw b6 c6 hk, by omega, fun j => if k ≤ j then j + 1 else j, fun j hj => ?_⟩
    have i1 := ix j 0 hj (by omega)
    rw [Nat.add_zero, Nat.add_zero] at i1
    have hm : (if k ≤ j then j + 1 else j) < nO ∧ (if k ≤ j then j + 1 else j) ≠ k := by split <;> omega
    refine ⟨hm.1, i1, fun y => hm.2 (hK k hk _ hm.1 (by rw [y]; exact hkk.symm)), fun i hi y => ?_⟩
    dsimp only at y
    split at y <;> split at y <;> omega
theorem w_gone {G : Nat → Int32} {nt nP nF nS : Nat} {key v : Int32} (h : WG G nt nP nF nS) (e : o_gone G nP key = .inl v) : WG (g_gone G nP nF key) nt (nP - 1) nF nS ∧ g_gone G nP nF key 3 = G 3 := by
  obtain ⟨hA, hT, hK, rk, hr⟩ := h
  obtain ⟨hPc, hP24, hFc, hF12, hWF, hWP⟩ := id hA
  have hG3 := hK.2.2.2
  have hS24 := hT.2.1
  unfold o_gone at e
  unfold g_gone
  rcases z : pB G nP key with _ | p
  · rw [z] at e; cases e
  · dsimp only
    obtain ⟨hp, hpk, -⟩ := fst1_spec z
    have hpk := of_decide_eq_true hpk
    have h8 : ∀ E, E < nF → nOof G E ≤ 8 := fun E hE => by
      obtain ⟨nE, bE, cE⟩ := nO_of (hWF E hE)
      unfold nOof; rw [bE]; omega
    obtain ⟨ga, gb⟩ := goneF_at (G := G) (key := key) (p := p) (n := nP - 1) (by omega) (m := nF) h8
    have ho : ∀ j, j ≠ 0 → j < 174 → (j < 6 + 2 * p ∨ 6 + 2 * (nP - 1) ≤ j) → g_gone1 G nP nF key p j = G j := fun j h1 h2 h3 => by unfold g_gone1; rw [u1_o h1, shf_o (by omega), gb j h2]
    have e0 : g_gone1 G nP nF key p 0 = nI (nP - 1) := by unfold g_gone1; rw [u1_i]
    have eP : ∀ q y, q < nP - 1 → y < 2 → g_gone1 G nP nF key p (6 + 2 * q + y) = G (6 + 2 * (if p ≤ q then q + 1 else q) + y) := fun q y hq hy => by
      unfold g_gone1
      rw [u1_o (by omega)]
      by_cases x : p ≤ q
      · rw [if_pos x]; unfold shf; rw [if_pos (by omega), gb _ (by omega)]; congr 1; omega
      · rw [if_neg x, shf_o (by omega), gb _ (by omega)]
    have eB : ∀ E, E < nF → ∀ w, w < 84 → g_gone1 G nP nF key p (174 + 84 * E + w) = gone1 G key p (nP - 1) E (174 + 84 * E + w) := fun E hE w hw => by
      unfold g_gone1; rw [u1_o (by omega), shf_o (by omega), ga E w hw, if_pos hE]
    have e6 : ∀ E, E < nF → ∀ w, w < 36 ∨ (36 + (nP - 1) < w ∧ w < 84) → g_gone1 G nP nF key p (174 + 84 * E + w) = gone0 G key E (174 + 84 * E + w) := fun E hE w hw => by
      rw [eB E hE w (by omega), gone1_o6 (by omega) (by omega)]
    have e5 : ∀ E, E < nF → ∀ w, w < 36 ∨ (36 + (nP - 1) < w ∧ w < 84) → w ≠ 6 ∧ ¬ (20 ≤ w ∧ w < 36) → g_gone1 G nP nF key p (174 + 84 * E + w) = G (174 + 84 * E + w) := fun E hE w hw h2 => by
      rw [e6 E hE w hw, gone0_o (h8 E hE) h2]
    have eK : ∀ E, E < nF → ∀ q, q < 24 → g_gone1 G nP nF key p (174 + 84 * E + (36 + q)) = if q = nP - 1 then nI 0 else G (174 + 84 * E + (36 + (if p ≤ q ∧ q < nP - 1 then q + 1 else q))) := fun E hE q hq => by
      rw [eB E hE _ (by omega), gone1_e]
      by_cases x : q = nP - 1
      · rw [if_pos x, x, u1_i]
      · rw [if_neg x, u1_o (by omega)]
        by_cases y : p ≤ q ∧ q < nP - 1
        · rw [if_pos y]; unfold shf; rw [if_pos (by omega), show 174 + 84 * E + (36 + q) + 1 = 174 + 84 * E + (36 + (q + 1)) by omega]
          exact gone0_o (h8 E hE) (by omega)
        · rw [if_neg y, shf_o (by omega)]
          exact gone0_o (h8 E hE) (by omega)
    generalize g_gone1 G nP nF key p = G' at ho e0 eP eB e6 e5 eK ⊢
    refine ⟨⟨⟨e0, by omega, by rw [ho 1 (by omega) (by omega) (by omega)]; exact hFc, hF12, fun E hE => ?_, fun q hq => ?_⟩, WFT_congr hT (fun j hj => ho j (by omega) (by omega) (by omega)), ⟨fun q1 q2 h1 h2 y => ?_, fun E hE k hk => ?_, fun E hE q h1 h2 => ?_, by rw [ho 3 (by omega) (by omega) (by omega)]; exact hG3⟩, rk, RK_congr hA (fun E hE w hw => e5 E hE w (by omega) (by omega)) hr⟩, ho 3 (by omega) (by omega) (by omega)⟩
    · obtain ⟨g1, g2, -⟩ := gone0_ov (key := key) (nP := nP) (hWF E hE) (fun k hk j hj => (hK.2.1 E hE k hk).2 j hj)
      refine g1.puk (fun w hw => e6 E hE w (by omega)) (fun q hq => ?_)
      rw [eK E hE q hq]
      obtain ⟨-, -, -, -, -, -, -, -, -, -, -, -, wK, -⟩ := hWF E hE
      split
      · decide
      · exact wK _ (by split <;> omega)
    · have x0 := eP q 0 hq (by omega)
      rw [Nat.add_zero, Nat.add_zero] at x0
      rw [eP q 1 hq (by omega), x0]
      exact hWP _ (by split <;> omega)
    · have x1 := eP q1 0 h1 (by omega)
      have x2 := eP q2 0 h2 (by omega)
      rw [Nat.add_zero, Nat.add_zero] at x1 x2
      rw [x1, x2] at y
      have := hK.1 _ _ (by split <;> omega) (by split <;> omega) y
      split at this <;> split at this <;> omega
    · obtain ⟨g1, g2, m, hm⟩ := gone0_ov (key := key) (nP := nP) (hWF E hE) (fun k hk j hj => (hK.2.1 E hE k hk).2 j hj)
      have en : nOof G' E = nOof (gone0 G key E) E := by unfold nOof; rw [e6 E hE 6 (by omega)]
      rw [en] at hk ⊢
      obtain ⟨m1, m2, m3, m4⟩ := hm k hk
      have ov : ∀ j, j < nOof (gone0 G key E) E → G' (174 + 84 * E + (20 + 2 * j)) = G (174 + 84 * E + (20 + 2 * m j)) := fun j hj => by rw [e6 E hE (20 + 2 * j) (by omega)]; exact (hm j hj).2.1
      rw [ov k hk]
      obtain ⟨⟨q, hq, y⟩, y2⟩ := hK.2.1 E hE (m k) m1
      refine ⟨?_, fun j hj x => ?_⟩
      · have qp : q ≠ p := fun x => m3 (by rw [← y, x]; exact hpk)
        by_cases x : q < p
        · refine ⟨q, by omega, ?_⟩
          have x0 := eP q 0 (by omega) (by omega)
          rw [Nat.add_zero, Nat.add_zero, if_neg (by omega)] at x0
          rw [x0]; exact y
        · refine ⟨q - 1, by omega, ?_⟩
          have x0 := eP (q - 1) 0 (by omega) (by omega)
          rw [Nat.add_zero, Nat.add_zero, if_pos (by omega), show q - 1 + 1 = q by omega] at x0
          rw [x0]; exact y
      · rw [ov j hj] at x
        exact m4 j hj (y2 (m j) (hm j hj).1 x)
    · rw [eK E hE q h2]
      split
      · rfl
      · rw [if_neg (by omega)]
        exact hK.2.2.1 E hE q (by omega) h2
theorem n_gone {G : Nat → Int32} {nP nF : Nat} {key : Int32} {j : Nat} (e : o_gone G nP key = .inr j) : g_gone G nP nF key = G := by
  unfold g_gone
  rcases z : pB G nP key with _ | p
  · rfl
  · unfold o_gone at e; rw [z] at e; cases e
theorem shO_ok {a : Nat ⊕ (Nat × Nat × Nat)} (h : aOK a) : ((1000 ≤ (shO a 0).toInt ∧ (shO a 0).toInt ≤ 1003) ∨ (0 ≤ (shO a 0).toInt ∧ (shO a 0).toInt ≤ 333)) ∧ (0 ≤ (shO a 1).toInt ∧ (shO a 1).toInt ≤ 333) ∧ 0 ≤ (shO a 2).toInt ∧ (shO a 2).toInt ≤ 333 := by
  rcases a with v | ⟨x, y, z⟩
  · have h : v ≤ 3 := h
    have e0 : (shO (.inl v) 0).toInt = ((1000 + v : Nat) : Int) := nI_toInt (by omega)
    have e1 : (shO (.inl v) 1).toInt = 0 := rfl
    have e2 : (shO (.inl v) 2).toInt = 0 := rfl
    rw [e0, e1, e2]; omega
  · have h : x ≤ 333 ∧ y ≤ 333 ∧ z ≤ 333 := h
    have e0 : (shO (.inr (x, y, z)) 0).toInt = (x : Int) := nI_toInt (by omega)
    have e1 : (shO (.inr (x, y, z)) 1).toInt = (y : Int) := nI_toInt (by omega)
    have e2 : (shO (.inr (x, y, z)) 2).toInt = (z : Int) := nI_toInt (by omega)
    rw [e0, e1, e2]; omega
theorem w_rule {G : Nat → Int32} {nt nP nF nS F r m : Nat} {a : Nat ⊕ (Nat × Nat × Nat)} (h : WG G nt nP nF nS) (hF : F < nF) (b4 : (G (174 + 84 * F + 4)).toInt = (r : Int)) (hr : r < 6) (hm : 0 < m) (hb : nt + m ≤ 100000) (ha : aOK a) : WG (g_rule1 G F r nt m a) (nt + m) nP nF nS ∧ g_rule1 G F r nt m a 3 = G 3 := by
  have h2 := h.nt (nt' := nt + m) (by omega)
  have hw := h2.ff hF
  have hP24 := h.1.2.1
  have ho : ∀ j, ¬ (174 + 84 * F + 60 + 4 * r ≤ j ∧ j < 174 + 84 * F + 60 + 4 * r + 4) → j ≠ 174 + 84 * F + 4 → g_rule1 G F r nt m a j = G j := fun j h1 h2 => g_rule1_o h1 h2
  have e4 : g_rule1 G F r nt m a (174 + 84 * F + 4) = nI (r + 1) := g_rule1_4
  obtain ⟨-, -, -, -, -, w5, w6, -, -, -, -, wR, -, -⟩ := id hw
  refine ⟨h2.one hF (fun j hj => ho j (by omega) (by omega)) (hw.put (fun w hw => ho _ (by omega) (by omega)) (by rw [e4, nI_toInt (by omega)]; omega) (by rw [ho _ (by omega) (by omega)]; exact w5) (by rw [ho _ (by omega) (by omega)]; exact w6) (hw.qn (fun w hw => ho _ (by omega) (by omega))) (fun q hq => ?_) (hw.qo (fun w hw => ho _ (by omega) (by omega)))) (fun w hw => ho _ (by omega) (by omega)), ho 3 (by omega) (by omega)⟩
  rw [e4, nI_toInt (by omega)] at hq
  show QR1 (g_rule1 G F r nt m a) (nt + m) F q
  unfold QR1
  by_cases z : q = r
  · subst z
    have i1 : g_rule1 G F q nt m a (174 + 84 * F + 60 + 4 * q + 1) = shO a 0 := by unfold g_rule1; rw [u1_o (by omega), u1_o (by omega), u1_o (by omega), u1_i]
    have i2 : g_rule1 G F q nt m a (174 + 84 * F + 60 + 4 * q + 2) = shO a 1 := by unfold g_rule1; rw [u1_o (by omega), u1_o (by omega), u1_i]
    have i3 : g_rule1 G F q nt m a (174 + 84 * F + 60 + 4 * q + 3) = shO a 2 := by unfold g_rule1; rw [u1_o (by omega), u1_i]
    rw [g_rule1_0, i1, i2, i3, nI_toInt (by omega)]
    obtain ⟨s1, s2, s3⟩ := shO_ok ha
    exact ⟨⟨by omega, by omega⟩, s1, s2, s3⟩
  · rw [ho _ (by omega) (by omega), ho _ (by omega) (by omega), ho _ (by omega) (by omega), ho _ (by omega) (by omega)]
    exact wR q (by omega)
