/-! THE CLASS: rule, the desks behind it -/
/-- the desks behind a rule that has been made -/
theorem RUD.dr {K F C S K' F' C' S' : Nat → Int32} {I : Nat → Nat → Int32} {R : Nat → Nat → Option Nat} {L : Nat → Nat → Int64} {sh : Nat → Nat × Nat} {N nt nP nF nS E r : Nat} {G : Nat → Int32} {ns : List Nd} {a : Nat ⊕ (Nat × Nat × Nat)} {x : Option Value} {h2 : HS} (hN : 781 ≤ N) (hNs : ShN sh N) (hx : GRW K F C S K' F' C' S' nt (nt + ns.length)) (hn : NIN K' F' C' S' nt ns) (hv : NV ns) (hm : 0 < ns.length) (hm2 : ns.length < 250) (ha : aOK a) (hE : E < nF) (hE2 : E < 12) (hr : nRof G E = r) (hr6 : r < 6) (h : RUD E r ns a I R L sh N x h2) :
    ∃ J R1 L1 sh1, x = some (.int (nI r)) ∧ h2 = (J, R1, L1, sh1, N + 6) ∧ ShN sh1 (N + 6) ∧ RfOK R1 ∧ (∀ b, b < N → sh1 b = sh b) ∧ (∀ b j, b < N → L1 b j = L b j) ∧ (∀ b j, b < 781 → ¬ (731 ≤ b ∧ b < 740) → ¬ (b = 0 ∧ j = 9) → ¬ (dk 0 ≤ b ∧ b < dk 0 + 239) → J b j = I b j) ∧ (∀ b j, b < 781 → b ≠ 731 → ¬ (dk 0 ≤ b ∧ b < dk 0 + 239) → R1 b j = R b j) ∧ J 0 9 = nI 0 ∧
      (WFA G nP nF nt → WFT G nF nS → DR K F C S I R sh nt 0 G nP nF nS → DR K' F' C' S' J R1 sh1 (nt + ns.length) 0 (g_rule1 G E r nt ns.length a) nP nF nS) ∧
      ∀ G1 nP1 nF1 nS1, WFA G1 nP1 nF1 nt → WFT G1 nF1 nS1 → DR K F C S I R sh nt 1 G1 nP1 nF1 nS1 → DR K' F' C' S' J R1 sh1 (nt + ns.length) 1 G1 nP1 nF1 nS1 := by
  obtain ⟨J, R1, L1, sh1, hx1, hh, hs1, hsh, hL, hR1, hRf, hRn, hJ, hJ9, hJ5, hco, hpa⟩ := h
  have eJ : ∀ b j, 781 ≤ b → b < N → E < 12 → J b j = I b j := fun b j h1 h2 h3 => hJ b j h2 (by omega) (by omega) (by unfold fe; omega) (by unfold ru fe; omega) (by unfold ru fe; omega)
  have eR : ∀ b j, 781 ≤ b → b < N → E < 12 → R1 b j = R b j := fun b j h1 h2 h3 => hR1 b j h2 (by omega) (by unfold ru fe; omega)
  have hCO := CoK.co (K := K') (F := F') (C := C') (S := S') hN hm hm2 hv hco hn
  · have fl := fe_lt (e := 0) (by decide) hE2
    have rl : fe 0 E + 7 + 2 * r = ru 0 E r := by unfold ru; omega
    refine ⟨J, R1, L1, sh1, hx1, hh, hs1, hRf, hsh, hL, fun b j h1 h2 h3 h4 => hJ b j (by omega) h2 h3 (by omega) (by omega) (by omega), fun b j h1 h2 h4 => hR1 b j (by omega) h2 (by omega), hJ9, fun hW hT hD => ?_, fun G1 nP1 nF1 nS1 hW hT hD => ?_⟩
    · have dk0 : dk 0 = 1 := rfl
      have hP24 := hW.2.1
      have feL : ∀ E2, E2 < 12 → 12 ≤ fe 0 E2 ∧ fe 0 E2 + 19 ≤ 240 := fun E2 h => by have := fe_lt (e := 0) (by decide) h; unfold dk at this; omega
      have apart : ∀ E2, E2 ≠ E → ∀ k, k < 19 → fe 0 E2 + k ≠ fe 0 E ∧ fe 0 E2 + k ≠ ru 0 E r ∧ fe 0 E2 + k ≠ ru 0 E r + 1 := fun E2 h k hk => by unfold ru fe; omega
      refine DR.mo hW.2.1 hT.2.1 hD (fun b j h1 h2 => hJ b j (by omega) (by omega) (by omega) (by have := feL E hE2; omega) (by have := feL E hE2; omega) (by have := feL E hE2; omega)) (fun j hj => g_rule1_o (by omega) (by omega)) (fun E2 hE3 => ?_) (fun E2 h1 h2 k j hk => ?_)
      · have h12 : E2 < 12 := by have := hW.2.2.2.1; omega
        have q2 := feL E2 h12
        have hFR := hD.2.2.2.1 E2 hE3
        have hwf := hW.2.2.2.2.1 E2 hE3
        have hr62 : nRof G E2 ≤ 6 := by
          have := hwf.2.2.2.2.1
          unfold nRof; omega
        by_cases q : E2 = E
        · subst q
          refine FR.mo hx hNs hsh (fun b j h1 h2 => eJ b j h1 h2 hE2) (fun b j h1 h2 => eR b j h1 h2 hE2) hwf hFR (fun k j h1 h2 => hJ _ j (by omega) (by omega) (by omega) (fun z => h2 ⟨by omega, z.2⟩) (by omega) (by omega)) (by rw [g_rule1_4]; exact hJ5) (fun k j h1 => hR1 _ j (by omega) (by omega) (by omega)) (fun w h1 h2 => g_rule1_o (by omega) (by omega)) (fun p hp => g_rule1_o (by omega) (by omega)) (fun r2 h1 h2 => ?_)
          have e4 : nRof (g_rule1 G E2 r nt ns.length a) E2 = r + 1 := by unfold nRof; rw [g_rule1_4, nI_toInt (by omega), Int.toNat_natCast]
          rw [e4] at h1
          obtain rfl : r2 = r := by omega
          exact RR.new hCO ha hRn hpa
        · refine FR.mo hx hNs hsh (fun b j h1 h2 => eJ b j h1 h2 hE2) (fun b j h1 h2 => eR b j h1 h2 hE2) hwf hFR (fun k j h1 h2 => ?_) ?_ (fun k j h1 => ?_) (fun w h1 h2 => g_rule1_o (by omega) (by omega)) (fun p hp => g_rule1_o (by omega) (by omega)) (fun r2 h1 h2 => ?_)
          · obtain ⟨p1, p2, p3⟩ := apart E2 q k (by omega)
            exact hJ _ j (by omega) (by omega) (by omega) (fun z => p1 z.1) p2 p3
          · obtain ⟨p1, p2, p3⟩ := apart E2 q 0 (by omega)
            rw [g_rule1_o (by omega) (by omega), ← hFR.1.2.2.2.2.1]
            exact hJ _ 5 (by omega) (by omega) (by omega) (fun z => p1 z.1) p2 p3
          · obtain ⟨p1, p2, p3⟩ := apart E2 q k (by omega)
            exact hR1 _ j (by omega) (by omega) p2
          · have e4 : nRof (g_rule1 G E r nt ns.length a) E2 = nRof G E2 := by unfold nRof; rw [g_rule1_o (by omega) (by omega)]
            rw [e4] at h1; exact absurd h1 h2
      · have q2 := feL E2 h2
        obtain ⟨p1, p2, p3⟩ := apart E2 (by omega) k hk
        exact hJ _ j (by omega) (by omega) (by omega) (fun z => p1 z.1) p2 p3
    · have d0 := fl
      unfold dk at d0
      have b1 : ∀ b j, 240 ≤ b → b < 479 → J b j = I b j := fun b j h1 h2 => hJ b j (by omega) (by omega) (by omega) (by omega) (by omega) (by omega)
      have b2 : ∀ b j, 240 ≤ b → b < 479 → R1 b j = R b j := fun b j h1 h2 => hR1 b j (by omega) (by omega) (by omega)
      have fe1 : ∀ E2, E2 < 12 → 251 ≤ fe 1 E2 ∧ fe 1 E2 + 19 ≤ 479 := fun E2 h => by unfold fe; omega
      refine DR.mo hW.2.1 hT.2.1 hD (fun b j h1 h2 => b1 b j (by unfold dk at h1; omega) (by unfold dk at h2; omega)) (fun j hj => rfl) (fun E2 hE3 => ?_) (fun E2 h1 h2 k j hk => by have := fe1 E2 h2; exact b1 _ j (by omega) (by omega))
      have h12 : E2 < 12 := by have := hW.2.2.2.1; omega
      have q2 := fe1 E2 h12
      have hFR := hD.2.2.2.1 E2 hE3
      have hwf := hW.2.2.2.2.1 E2 hE3
      have hr62 : nRof G1 E2 ≤ 6 := by
        have := hwf.2.2.2.2.1
        unfold nRof; omega
      exact FR.mo hx hNs hsh (fun b j h1 h2 => eJ b j h1 h2 hE2) (fun b j h1 h2 => eR b j h1 h2 hE2) hwf hFR (fun k j h1 h2 => b1 _ j (by omega) (by omega)) ((b1 _ 5 (by omega) (by omega)).trans hFR.1.2.2.2.2.1) (fun k j h1 => b2 _ j (by omega) (by omega)) (fun w h1 h2 => rfl) (fun p hp => rfl) (fun r2 h1 h2 => absurd h1 h2)
