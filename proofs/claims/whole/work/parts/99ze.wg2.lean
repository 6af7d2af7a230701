/-! THE ROW G STAYS SOUND, second: asking, time -/
theorem WFF.puk {G G' : Nat → Int32} {nF nt F : Nat} (h : WFF G nF nt F) (e : ∀ w, w < 36 ∨ (60 ≤ w ∧ w < 84) → G' (174 + 84 * F + w) = G (174 + 84 * F + w)) (wK : ∀ p : Nat, p < 24 → 0 ≤ (G' (174 + 84 * F + (36 + p))).toInt ∧ (G' (174 + 84 * F + (36 + p))).toInt ≤ 3) : WFF G' nF nt F := by
  have hN := h.qn (G' := G') (fun w hw => e w (by omega))
  have hR := h.qr (G' := G') (fun w hw => e w (by omega))
  have hO := h.qo (G' := G') (fun w hw => e w (by omega))
  obtain ⟨w0, w1, w2, w3, w4, w5, w6, w7, w8, w9, -, -, -, -⟩ := h
  exact ⟨by rw [e 0 (by omega)]; exact w0, by rw [e 1 (by omega)]; exact w1, by rw [e 2 (by omega)]; exact w2, by rw [e 3 (by omega)]; exact w3, by rw [e 4 (by omega)]; exact w4, by rw [e 5 (by omega)]; exact w5, by rw [e 6 (by omega)]; exact w6, by rw [e 7 (by omega)]; exact w7, by rw [e 8 (by omega)]; exact w8, by rw [e 9 (by omega)]; exact w9, hN, hR, wK, hO⟩
theorem w_forget {G : Nat → Int32} {nt nP nF nS : Nat} {f : Int32} (h : WG G nt nP nF nS) : WG (g_forget G nF f) nt nP nF nS := by
  unfold g_forget
  split
  · rename_i c
    have hF : f.toInt.toNat < nF := by omega
    have hw := h.ff hF
    generalize f.toInt.toNat = F at *
    have hP24 := h.1.2.1
    refine h.one hF (fun j hj => fil_o (by omega)) (hw.puk (fun w hw => fil_o (by omega)) (fun p hp => by rw [fil_i (by omega)]; decide)) (fun w hw => ?_)
    by_cases q : 36 ≤ w
    · obtain ⟨p, rfl⟩ : ∃ p, w = 36 + p := ⟨w - 36, by omega⟩
      rw [fil_i (by omega), h.2.2.1.2.2.1 F hF p (by omega) (by omega)]
    · exact fil_o (by omega)
  · exact h
theorem n_forget {G : Nat → Int32} {nP nF : Nat} {f : Int32} {j : Nat} (e : o_forget G nP nF f = .inr j) : g_forget G nF f = G := by
  unfold g_forget
  split
  · rename_i c
    unfold o_forget at e; rw [if_pos c] at e; cases e
  · rfl
theorem WG.ask {G : Nat → Int32} {nt nP nF nS F p : Nat} {a : Int32 × Int32 × Int32} (h : WG G nt nP nF nS) (hF : F < nF) (hp : p < nP) (ha : 0 ≤ a.1.toInt ∧ a.1.toInt ≤ 3) : WG (g_ask a G F p) nt nP nF nS ∧ g_ask a G F p 3 = G 3 := by
  obtain ⟨hA, hT, hK, rk, hr⟩ := h
  have hP24 := hA.2.1
  refine ⟨⟨g_ask_W hA hF hp ha, WFT_congr hT (fun j hj => g_ask_o ha.2 (by omega) (by omega) (by omega)), g_ask_K hA hK hF hp ha.2, rk, RK_congr hA (fun E hE w hw => ?_) hr⟩, g_ask_o ha.2 (by omega) (by omega) (by omega)⟩
  by_cases q : E = F
  · subst q; exact g_ask_o ha.2 (by omega) (by omega) (by omega)
  · exact g_ask_o ha.2 (by omega) (by omega) (by omega)
theorem w_ask {tr : Int32 → Nat → Nat → Bool} {G : Nat → Int32} {nt nP nF nS : Nat} {f key : Int32} (h : WG G nt nP nF nS) : WG (g_asked (AN tr G) G nP nF f key) nt nP nF nS ∧ g_asked (AN tr G) G nP nF f key 3 = G 3 := by
  obtain ⟨rk, hr⟩ := h.2.2.2
  unfold g_asked
  rcases z : pB G nP key with _ | p
  · exact ⟨h, rfl⟩
  · dsimp only
    have hp : p < nP := (fst1_spec z).1
    split
    · rename_i c
      have hF : f.toInt.toNat < nF := by omega
      exact h.ask hF hp (AN_rng h.1 hr hp hF).1
    · exact ⟨h, rfl⟩
theorem n_ask {A : Nat → Nat → Int32 × Int32 × Int32} {G : Nat → Int32} {nP nF : Nat} {f key : Int32} {j : Nat} (e : o_ask A G nP nF f key = .inr j) : g_asked A G nP nF f key = G := by
  unfold o_ask at e; unfold g_asked
  rcases z : pB G nP key with _ | p
  · rfl
  · rw [z] at e
    dsimp only at e ⊢
    split
    · rename_i c; rw [if_pos c] at e; cases e
    · rfl
theorem w_step {G : Nat → Int32} {nt nP nF nS : Nat} {t f s k q v : Int32} (h : WG G nt nP nF nS) (e : o_step G nF t f s k q = .inl v) : WG (g_step G nF t f s k q) nt nP nF (nS + 1) ∧ g_step G nF t f s k q 3 = G 3 := by
  obtain ⟨hA, hT, hK, rk, hr⟩ := h
  obtain ⟨hPc, hP24, hFc, hF12, hWF, hWP⟩ := id hA
  obtain ⟨t2, t24, tt⟩ := id hT
  unfold o_step at e
  unfold g_step
  split
  · rename_i c
    rw [if_pos c] at e
    split
    · rename_i d; rw [if_pos d] at e; cases e
    · rename_i d
      have e2 : (G 2).toInt.toNat = nS := by rw [t2, nI_toInt (by omega)]; omega
      have e2i : (G 2).toInt = (nS : Int) := by rw [t2, nI_toInt (by omega)]
      rw [e2]
      have hn : nS < 24 := by omega
      obtain ⟨⟨c0, c1⟩, ⟨f0, f1⟩, ⟨s0, s1⟩, ⟨k0, k1⟩, q0, q1⟩ := c
      obtain ⟨w0, -⟩ := hWF f.toInt.toNat (by omega)
      have hG3 := hK.2.2.2
      have ho : ∀ j, j ≠ 2 → ¬ (54 + 5 * nS ≤ j ∧ j < 54 + 5 * nS + 5) → g_step1 G nS t f s k q j = G j := fun j h1 h2 => by unfold g_step1; rw [u1_o (by omega), u1_o (by omega), u1_o (by omega), u1_o (by omega), u1_o (by omega), u1_o (by omega)]
      refine ⟨⟨WFA_head hA (fun j hj => ho j (by omega) (by omega)), ⟨by unfold g_step1; rw [u1_i], by omega, fun i hi => ?_⟩, WFK_congr hA hK (fun p hp => ho _ (by omega) (by omega)) (fun E hE w hw => ho _ (by omega) (by omega)) (by rw [ho 3 (by omega) (by omega)]; exact hG3), rk, RK_congr hA (fun E hE w hw => ho _ (by omega) (by omega)) hr⟩, ho 3 (by omega) (by omega)⟩
      by_cases z : i = nS
      · subst z
        have v0 : g_step1 G i t f s k q (54 + 5 * i) = t := by unfold g_step1; rw [u1_o (by omega), u1_o (by omega), u1_o (by omega), u1_o (by omega), u1_o (by omega), u1_i]
        have v1 : g_step1 G i t f s k q (54 + 5 * i + 1) = f := by unfold g_step1; rw [u1_o (by omega), u1_o (by omega), u1_o (by omega), u1_o (by omega), u1_i]
        have v2 : g_step1 G i t f s k q (54 + 5 * i + 2) = s := by unfold g_step1; rw [u1_o (by omega), u1_o (by omega), u1_o (by omega), u1_i]
        have v3 : g_step1 G i t f s k q (54 + 5 * i + 3) = k := by unfold g_step1; rw [u1_o (by omega), u1_o (by omega), u1_i]
        have v4 : g_step1 G i t f s k q (54 + 5 * i + 4) = q := by unfold g_step1; rw [u1_o (by omega), u1_i]
        rw [v0, v1, v2, v3, v4]
        exact ⟨⟨by omega, c1⟩, ⟨f0, f1⟩, ⟨s0, s1⟩, ⟨k0, by omega⟩, q0, q1⟩
      · rw [ho _ (by omega) (by omega), ho _ (by omega) (by omega), ho _ (by omega) (by omega), ho _ (by omega) (by omega), ho _ (by omega) (by omega)]
        exact tt i (by omega)
  · rename_i c
    rw [if_neg c] at e; cases e
theorem n_step {G : Nat → Int32} {nF : Nat} {t f s k q : Int32} {j : Nat} (e : o_step G nF t f s k q = .inr j) : g_step G nF t f s k q = G := by
  unfold g_step
  split
  · rename_i c
    split
    · rfl
    · rename_i d
      unfold o_step at e; rw [if_pos c, if_neg d] at e; cases e
  · rfl
theorem WG.sti {t : Int32} {G : Nat → Int32} {nt nP nF nS : Nat} (h : WG G nt nP nF nS) : WG (stI t nS G).2 nt nP nF (nS - (stI t nS G).1) ∧ (stI t nS G).2 3 = G 3 := by
  obtain ⟨hA, hT, hK, rk, hr⟩ := h
  obtain ⟨a1, a2, a3, a4, a5⟩ := stI_all (t := t) nS G hA hT
  exact ⟨⟨a1, a2, stI_KW hA hT hK, rk, stI_K hA hT hr⟩, a4 3 (by omega)⟩
theorem w_pass {G : Nat → Int32} {nt nP nF nS : Nat} {n v : Int32} (h : WG G nt nP nF nS) (h3 : (G 3).toInt ≤ 2000000) (e : o_pass G nS n = .inl v) : WG (g_pass G nS n) nt nP nF (nS - (stI (G 3 + n) nS (u1 G 3 (G 3 + n))).1) ∧ (g_pass G nS n 3).toInt ≤ (G 3).toInt + 999 := by
  have hG3 := h.2.2.1.2.2.2
  unfold o_pass at e
  unfold g_pass
  split
  · rename_i c
    have h2 : (G 3 + n).toInt = (G 3).toInt + n.toInt := toInt_add_of rfl rfl (by omega) (by omega)
    have hh : WG (u1 G 3 (G 3 + n)) nt nP nF nS := h.head (Or.inl rfl) (fun _ => by omega)
    obtain ⟨x1, x2⟩ := hh.sti (t := G 3 + n)
    refine ⟨x1, ?_⟩
    rw [x2, u1_i]; omega
  · rename_i c
    rw [if_neg c] at e; cases e
theorem n_pass {G : Nat → Int32} {nS : Nat} {n : Int32} {j : Nat} (e : o_pass G nS n = .inr j) : g_pass G nS n = G := by
  unfold g_pass
  split
  · rename_i c
    unfold o_pass at e; rw [if_pos c] at e; cases e
  · rfl
theorem w_day {lc : Int32 → Int32} {dw : Int32 → Nat} {tr : Int32 → Nat → Nat → Bool} {G : Nat → Int32} {nt nP nF nS : Nat} (h : WG G nt nP nF nS) (h3 : (G 3).toInt ≤ 2000000) (hP : 0 < nP) (hF : 0 < nF) : ∃ nS2, WG (dayG lc dw tr nP nF G) nt nP nF nS2 ∧ (dayG lc dw tr nP nF G 3).toInt ≤ (G 3).toInt + 3 := by
  have hG3 := h.2.2.1.2.2.2
  have h2 : WG (day2 lc G) nt nP nF nS := (h.head (Or.inr (Or.inr rfl)) (fun e => by omega)).head (Or.inr (Or.inr rfl)) (fun e => by omega)
  have e23 : day2 lc G 3 = G 3 := by unfold day2; rw [u1_o (by omega), u1_o (by omega)]
  obtain ⟨rk, hr⟩ := h2.2.2.2
  have hp := Nat.mod_lt (dw (lc (lc (G 5)))) hP
  have hf := Nat.mod_lt (dw (lc (G 5))) hF
  obtain ⟨a1, a2⟩ := h2.ask hf hp (AN_rng (tr := tr) h2.1 hr hp hf).1
  unfold dayG
  rw [day3_eq]
  generalize g_ask (AN tr (day2 lc G) (dw (lc (lc (G 5))) % nP) (dw (lc (G 5)) % nF)) (day2 lc G) (dw (lc (G 5)) % nF) (dw (lc (lc (G 5))) % nP) = X at a1 a2 ⊢
  rw [e23] at a2
  have h4 := Nat.mod_lt (dw (lc (X 5))) (show 0 < 4 by omega)
  have hD3 : (X 3 + nI (dw (lc (X 5)) % 4)).toInt = (G 3).toInt + ((dw (lc (X 5)) % 4 : Nat) : Int) := by
    rw [a2]; exact toInt_add_of rfl (nI_toInt (by omega)) (by omega) (by omega)
  have hd : WG (day4 lc dw X) nt nP nF nS := (a1.head (Or.inr (Or.inr rfl)) (fun e => by omega)).head (Or.inl rfl) (fun _ => by rw [hD3]; omega)
  have hd3 : day4 lc dw X 3 = X 3 + nI (dw (lc (X 5)) % 4) := by unfold day4; rw [u1_i]
  generalize day4 lc dw X = D at hd hd3 ⊢
  have e2 : (D 2).toInt.toNat = nS := by rw [hd.2.1.1, nI_toInt (by have := hd.2.1.2.1; omega)]; omega
  unfold dayS
  rw [e2]
  obtain ⟨s1, s2⟩ := hd.sti (t := D 3)
  refine ⟨_, s1, ?_⟩
  rw [s2, hd3, hD3]; omega
theorem w_days1 {lc : Int32 → Int32} {dw : Int32 → Nat} {tr : Int32 → Nat → Nat → Bool} {nt nP nF : Nat} (hP : 0 < nP) (hF : 0 < nF) : ∀ (m : Nat) (G : Nat → Int32) (nS : Nat), WG G nt nP nF nS → (G 3).toInt + 3 * m ≤ 2000000 → ∃ nS2, WG (daysG lc dw tr nP nF m G).2 nt nP nF nS2 ∧ ((daysG lc dw tr nP nF m G).2 3).toInt ≤ (G 3).toInt + 3 * m
  | 0, G, nS, h, h3 => ⟨nS, h, by show (G 3).toInt ≤ _; omega⟩
  | m + 1, G, nS, h, h3 => by
    obtain ⟨n1, h1, h2⟩ := w_day (lc := lc) (dw := dw) (tr := tr) h (by omega) hP hF
    obtain ⟨n2, h4, h5⟩ := w_days1 (lc := lc) (dw := dw) (tr := tr) hP hF m _ n1 h1 (by omega)
    rw [daysG_s]
    exact ⟨n2, h4, by dsimp only; omega⟩
theorem w_days {tr : Int32 → Nat → Nat → Bool} {G : Nat → Int32} {nt nP nF nS : Nat} {n v : Int32} (h : WG G nt nP nF nS) (h3 : (G 3).toInt ≤ 1000000) (e : o_days tr G nP nF n = .inl v) : WG (g_days tr G nP nF n) nt nP nF (g_days tr G nP nF n 2).toInt.toNat ∧ (g_days tr G nP nF n 3).toInt ≤ (G 3).toInt + 999 := by
  unfold o_days at e
  unfold g_days
  split
  · rename_i c
    rw [if_pos c] at e
    split
    · rename_i d; rw [if_pos d] at e; cases e
    · rename_i d
      obtain ⟨n2, h4, h5⟩ := w_days1 (lc := lcg) (dw := dr) (tr := tr) (nt := nt) (nP := nP) (nF := nF) (by omega) (by omega) n.toInt.toNat G nS h (by omega)
      generalize (daysG lcg dr tr nP nF n.toInt.toNat G).2 = D at h4 h5 ⊢
      have e2 : (D 2).toInt.toNat = n2 := by rw [h4.2.1.1, nI_toInt (by have := h4.2.1.2.1; omega)]; omega
      rw [e2]
      exact ⟨h4, by omega⟩
  · rename_i c
    rw [if_neg c] at e; cases e
theorem n_days {tr : Int32 → Nat → Nat → Bool} {G : Nat → Int32} {nP nF : Nat} {n : Int32} {j : Nat} (e : o_days tr G nP nF n = .inr j) : g_days tr G nP nF n = G := by
  unfold g_days
  split
  · rename_i c
    split
    · rfl
    · rename_i d
      unfold o_days at e; rw [if_pos c, if_neg d] at e; cases e
  · rfl
