/-! THE ROW G STAYS SOUND, first: what one call changes in a feature -/
/-- a sound row -/
def WG (G : Nat → Int32) (nt nP nF nS : Nat) : Prop := WFA G nP nF nt ∧ WFT G nF nS ∧ WFK G nP nF ∧ ∃ rk, RK G nF rk
abbrev QN (G : Nat → Int32) (nF F : Nat) : Prop := ∀ n : Nat, (n : Int) < (G (174 + 84 * F + 5)).toInt → (0 ≤ (G (174 + 84 * F + (14 + 2 * n))).toInt ∧ (G (174 + 84 * F + (14 + 2 * n))).toInt < nF) ∧ 0 ≤ (G (174 + 84 * F + (14 + 2 * n + 1))).toInt ∧ (G (174 + 84 * F + (14 + 2 * n + 1))).toInt ≤ 3
abbrev QR1 (G : Nat → Int32) (nt F r : Nat) : Prop := (0 ≤ (G (174 + 84 * F + 60 + 4 * r + 0)).toInt ∧ (G (174 + 84 * F + 60 + 4 * r + 0)).toInt < nt) ∧ ((1000 ≤ (G (174 + 84 * F + 60 + 4 * r + 1)).toInt ∧ (G (174 + 84 * F + 60 + 4 * r + 1)).toInt ≤ 1003) ∨ (0 ≤ (G (174 + 84 * F + 60 + 4 * r + 1)).toInt ∧ (G (174 + 84 * F + 60 + 4 * r + 1)).toInt ≤ 333)) ∧ (0 ≤ (G (174 + 84 * F + 60 + 4 * r + 2)).toInt ∧ (G (174 + 84 * F + 60 + 4 * r + 2)).toInt ≤ 333) ∧ (0 ≤ (G (174 + 84 * F + 60 + 4 * r + 3)).toInt ∧ (G (174 + 84 * F + 60 + 4 * r + 3)).toInt ≤ 333)
abbrev QR (G : Nat → Int32) (nt F : Nat) : Prop := ∀ r : Nat, (r : Int) < (G (174 + 84 * F + 4)).toInt → QR1 G nt F r
abbrev QO (G : Nat → Int32) (F : Nat) : Prop := ∀ k : Nat, (k : Int) < (G (174 + 84 * F + 6)).toInt → 0 ≤ (G (174 + 84 * F + (20 + 2 * k + 1))).toInt ∧ (G (174 + 84 * F + (20 + 2 * k + 1))).toInt ≤ 3
theorem WFF.qn {G G' : Nat → Int32} {nF nt F : Nat} (h : WFF G nF nt F) (e : ∀ w, w = 5 ∨ (14 ≤ w ∧ w < 20) → G' (174 + 84 * F + w) = G (174 + 84 * F + w)) : QN G' nF F := by
  obtain ⟨w0, w1, w2, w3, w4, w5, w6, w7, w8, w9, wN, wR, wK, wO⟩ := h
  intro n hn
  rw [e 5 (by omega)] at hn
  rw [e (14 + 2 * n) (by omega), e (14 + 2 * n + 1) (by omega)]; exact wN n hn
theorem WFF.qr {G G' : Nat → Int32} {nF nt F : Nat} (h : WFF G nF nt F) (e : ∀ w, w = 4 ∨ (60 ≤ w ∧ w < 84) → G' (174 + 84 * F + w) = G (174 + 84 * F + w)) : QR G' nt F := by
  obtain ⟨w0, w1, w2, w3, w4, w5, w6, w7, w8, w9, wN, wR, wK, wO⟩ := h
  intro r hr
  rw [e 4 (by omega)] at hr
  have e4 : ∀ k, k < 4 → G' (174 + 84 * F + 60 + 4 * r + k) = G (174 + 84 * F + 60 + 4 * r + k) := fun k hk => by
    have := e (60 + 4 * r + k) (by omega)
    rwa [show 174 + 84 * F + (60 + 4 * r + k) = 174 + 84 * F + 60 + 4 * r + k by omega] at this
  show QR1 G' nt F r
  unfold QR1
  rw [e4 0 (by omega), e4 1 (by omega), e4 2 (by omega), e4 3 (by omega)]; exact wR r hr
theorem WFF.qo {G G' : Nat → Int32} {nF nt F : Nat} (h : WFF G nF nt F) (e : ∀ w, w = 6 ∨ (20 ≤ w ∧ w < 36) → G' (174 + 84 * F + w) = G (174 + 84 * F + w)) : QO G' F := by
  obtain ⟨w0, w1, w2, w3, w4, w5, w6, w7, w8, w9, wN, wR, wK, wO⟩ := h
  intro k hk
  rw [e 6 (by omega)] at hk
  rw [e (20 + 2 * k + 1) (by omega)]; exact wO k hk
theorem WFF.put {G G' : Nat → Int32} {nF nF' nt nt' F : Nat} (h : WFF G nF nt F) (e : ∀ w, w < 4 ∨ (7 ≤ w ∧ w < 10) ∨ (36 ≤ w ∧ w < 60) → G' (174 + 84 * F + w) = G (174 + 84 * F + w)) (w4 : 0 ≤ (G' (174 + 84 * F + 4)).toInt ∧ (G' (174 + 84 * F + 4)).toInt ≤ 6) (w5 : 0 ≤ (G' (174 + 84 * F + 5)).toInt ∧ (G' (174 + 84 * F + 5)).toInt ≤ 3) (w6 : 0 ≤ (G' (174 + 84 * F + 6)).toInt ∧ (G' (174 + 84 * F + 6)).toInt ≤ 8) (wN : QN G' nF' F) (wR : QR G' nt' F) (wO : QO G' F) : WFF G' nF' nt' F := by
  obtain ⟨w0, w1, w2, w3, -, -, -, w7, w8, w9, -, -, wK, -⟩ := h
  refine ⟨by rw [e 0 (by omega)]; exact w0, by rw [e 1 (by omega)]; exact w1, by rw [e 2 (by omega)]; exact w2, by rw [e 3 (by omega)]; exact w3, w4, w5, w6, by rw [e 7 (by omega)]; exact w7, by rw [e 8 (by omega)]; exact w8, by rw [e 9 (by omega)]; exact w9, wN, wR, fun p hp => ?_, wO⟩
  rw [e (36 + p) (by omega)]; exact wK p hp
theorem WFF.nt {G : Nat → Int32} {nF nt nt' F : Nat} (h : WFF G nF nt F) (hn : nt ≤ nt') : WFF G nF nt' F := by
  obtain ⟨w0, w1, w2, w3, w4, w5, w6, w7, w8, w9, wN, wR, wK, wO⟩ := h
  refine ⟨w0, w1, w2, w3, w4, w5, w6, w7, w8, w9, wN, fun r hr => ?_, wK, wO⟩
  obtain ⟨⟨a, b⟩, c⟩ := wR r hr
  exact ⟨⟨a, by omega⟩, c⟩
theorem WG.nt {G : Nat → Int32} {nt nt' nP nF nS : Nat} (h : WG G nt nP nF nS) (hn : nt ≤ nt') : WG G nt' nP nF nS := by
  obtain ⟨⟨a1, a2, a3, a4, a5, a6⟩, hT⟩ := h
  exact ⟨⟨a1, a2, a3, a4, fun F hF => (a5 F hF).nt hn, a6⟩, hT⟩
theorem WG.ff {G : Nat → Int32} {nt nP nF nS F : Nat} (h : WG G nt nP nF nS) (hF : F < nF) : WFF G nF nt F := h.1.2.2.2.2.1 F hF
theorem WG.one {G G' : Nat → Int32} {nt nP nF nS F : Nat} (h : WG G nt nP nF nS) (hF : F < nF) (e : ∀ j, j < 174 + 84 * F ∨ 174 + 84 * F + 84 ≤ j → G' j = G j) (hw : WFF G' nF nt F) (e5 : ∀ w, w = 5 ∨ w = 6 ∨ (14 ≤ w ∧ w < 36) ∨ (36 + nP ≤ w ∧ w < 60) → G' (174 + 84 * F + w) = G (174 + 84 * F + w)) : WG G' nt nP nF nS := by
  obtain ⟨hA, hT, hK, rk, hr⟩ := h
  have hP24 := hA.2.1
  have hF12 := hA.2.2.2.1
  have e6 : ∀ E, E < nF → ∀ w, w = 5 ∨ w = 6 ∨ (14 ≤ w ∧ w < 36) ∨ (36 + nP ≤ w ∧ w < 60) → G' (174 + 84 * E + w) = G (174 + 84 * E + w) := fun E hE w hz => by
    by_cases q : E = F
    · subst q; exact e5 w hz
    · exact e _ (by omega)
  exact ⟨WFA_one hA hF e hw, WFT_congr hT (fun j hj => e j (by omega)), WFK_congr hA hK (fun p hp => e _ (by omega)) (fun E hE w hw => e6 E hE w (by omega)) (by rw [e 3 (by omega)]; exact hK.2.2.2), rk, RK_congr hA (fun E hE w hw => e6 E hE w (by omega)) hr⟩
theorem WG.head {G : Nat → Int32} {nt nP nF nS j : Nat} {v : Int32} (h : WG G nt nP nF nS) (hj : j = 3 ∨ j = 4 ∨ j = 5) (hv : j = 3 → 0 ≤ v.toInt) : WG (u1 G j v) nt nP nF nS := by
  obtain ⟨hA, hT, hK, rk, hr⟩ := h
  have hP24 := hA.2.1
  refine ⟨WFA_head hA (fun i hi => u1_o (by omega)), WFT_congr hT (fun i hi => u1_o (by omega)), ?_, rk, RK_congr hA (fun E hE w hw => u1_o (by omega)) hr⟩
  rcases hj with rfl | q
  · exact WFK_3 hA hK (hv rfl)
  · exact WFK_head hA hK q
theorem w_part {G : Nat → Int32} {nt nP nF nS : Nat} {f s k q : Int32} (h : WG G nt nP nF nS) : WG (g_part G nF f s k q) nt nP nF nS := by
  unfold g_part
  split
  · rename_i c
    split
    · exact h
    · obtain ⟨⟨⟨f0, f1⟩, s0, s1⟩, ⟨k1, k2⟩, q0, q1⟩ := c
      have hF : f.toInt.toNat < nF := by omega
      have hw := h.ff hF
      obtain ⟨w0, -, -, -, w4, -⟩ := id hw
      have hs : s.toInt.toNat < 6 := by omega
      have hk : 1 ≤ k.toInt.toNat ∧ k.toInt.toNat ≤ 3 := by omega
      have hs2 : ((s.toInt.toNat : Nat) : Int) < (G (174 + 84 * f.toInt.toNat + 4)).toInt := by omega
      generalize f.toInt.toNat = F at *
      generalize s.toInt.toNat = r at *
      generalize k.toInt.toNat = x at *
      exact h.one hF (fun j hj => u1_o (by omega)) (WFF_part hw hs2 hk ⟨q0, q1⟩) (fun w hw => u1_o (by omega))
  · exact h
theorem n_part {G : Nat → Int32} {nF : Nat} {f s k q : Int32} {j : Nat} (e : o_part G nF f s k q = .inr j) : g_part G nF f s k q = G := by
  unfold g_part
  split
  · rename_i c
    split
    · rfl
    · rename_i d
      unfold o_part at e; rw [if_pos c, if_neg d] at e; cases e
  · rfl
theorem w_tell {G : Nat → Int32} {nt nP nF nS : Nat} {f k v : Int32} (h : WG G nt nP nF nS) : WG (g_tell G nF f k v) nt nP nF nS := by
  unfold g_tell
  split
  · rename_i c
    split
    · rename_i d
      obtain ⟨⟨f0, f1⟩, k0, k2⟩ := c
      have hF : f.toInt.toNat < nF := by omega
      have hw := h.ff hF
      obtain ⟨w0, -⟩ := id hw
      rcases (show (k.toInt.toNat = 0 ∧ 0 ≤ v.toInt ∧ v.toInt ≤ 1) ∨ (k.toInt.toNat = 1 ∧ 0 ≤ v.toInt ∧ v.toInt ≤ 1) ∨ (k.toInt.toNat = 2 ∧ 0 ≤ v.toInt ∧ v.toInt ≤ 3) by omega) with ⟨z, y⟩ | ⟨z, y⟩ | ⟨z, y⟩
      · rw [z]
        generalize f.toInt.toNat = F at *
        exact h.one hF (fun j hj => u1_o (by omega)) (WFF_1 hw y) (fun w hw => u1_o (by omega))
      · rw [z]
        generalize f.toInt.toNat = F at *
        exact h.one hF (fun j hj => u1_o (by omega)) (WFF_2 hw y) (fun w hw => u1_o (by omega))
      · rw [z]
        generalize f.toInt.toNat = F at *
        exact h.one hF (fun j hj => u1_o (by omega)) (WFF_3 hw y) (fun w hw => u1_o (by omega))
    · exact h
  · exact h
theorem n_tell {G : Nat → Int32} {nF : Nat} {f k v : Int32} {j : Nat} (e : o_tell G nF f k v = .inr j) : g_tell G nF f k v = G := by
  unfold g_tell
  split
  · rename_i c
    split
    · rename_i d
      unfold o_tell at e; rw [if_pos c, if_pos d] at e; cases e
    · rfl
  · rfl
theorem WFF_free {G : Nat → Int32} {nF nt F : Nat} (h : WFF G nF nt F) : WFF (u1 G (174 + 84 * F + 5) (nI 0)) nF nt F := by
  obtain ⟨w0, w1, w2, w3, w4, w5, w6, w7, w8, w9, wN, wR, wK, wO⟩ := id h
  refine h.put (fun w hw => u1_o (by omega)) (by rw [u1_o (by omega)]; exact w4) (by rw [u1_i]; decide) (by rw [u1_o (by omega)]; exact w6) (fun n hn => ?_) (h.qr (fun w hw => u1_o (by omega))) (h.qo (fun w hw => u1_o (by omega)))
  rw [u1_i, nI_toInt (by decide)] at hn; omega
theorem w_free {G : Nat → Int32} {nt nP nF nS : Nat} {f : Int32} (h : WG G nt nP nF nS) : WG (g_free G nF f) nt nP nF nS := by
  unfold g_free
  split
  · rename_i c
    have hF : f.toInt.toNat < nF := by omega
    have hw := h.ff hF
    generalize f.toInt.toNat = F at *
    obtain ⟨hA, hT, hK, rk, hr⟩ := h
    have hP24 := hA.2.1
    refine ⟨WFA_one hA hF (fun j hj => u1_o (by omega)) (WFF_free hw), WFT_congr hT (fun j hj => u1_o (by omega)), WFK_congr hA hK (fun p hp => u1_o (by omega)) (fun E hE w hw => u1_o (by omega)) (by rw [u1_o (by omega)]; exact hK.2.2.2), rk, fun E hE => ?_⟩
    by_cases q : E = F
    · subst q
      refine ⟨(hr E hE).1, fun n hn => ?_⟩
      rw [u1_i, show (nI 0).toInt.toNat = 0 from rfl] at hn; omega
    · obtain ⟨r1, r2⟩ := hr E hE
      obtain ⟨-, -, -, -, -, w5, -⟩ := hA.2.2.2.2.1 E hE
      refine ⟨r1, fun n hn => ?_⟩
      rw [u1_o (by omega)] at hn
      have : ndF (u1 G (174 + 84 * F + 5) (nI 0)) E n = ndF G E n := by unfold ndF; rw [u1_o (by omega)]
      rw [this]; exact r2 n hn
  · exact h
theorem n_free {G : Nat → Int32} {nF : Nat} {f : Int32} {j : Nat} (e : o_free G nF f = .inr j) : g_free G nF f = G := by
  unfold g_free
  split
  · rename_i c
    unfold o_free at e; rw [if_pos c] at e; cases e
  · rfl
theorem w_seed {G : Nat → Int32} {nt nP nF nS : Nat} {v : Int32} (h : WG G nt nP nF nS) : WG (g_seed G v) nt nP nF nS := h.head (by omega) (fun e => by omega)
theorem WFF_layer {G : Nat → Int32} {nF nt F : Nat} {l a b : Int32} (h : WFF G nF nt F) (hl : -1 ≤ l.toInt ∧ l.toInt ≤ 3) (ha : 0 ≤ a.toInt ∧ a.toInt ≤ 999) (hb : 0 ≤ b.toInt ∧ b.toInt ≤ 999) : WFF (g_layer1 G F l a b) nF nt F := WFF_9 (WFF_8 (WFF_7 h hl) ha) hb
theorem w_layer {G : Nat → Int32} {nt nP nF nS : Nat} {f l a b : Int32} (h : WG G nt nP nF nS) : WG (g_layer G nF f l a b) nt nP nF nS := by
  unfold g_layer
  split
  · rename_i c
    obtain ⟨⟨f0, f1⟩, l0, ab⟩ := c
    have hF : f.toInt.toNat < nF := by omega
    have hw := h.ff hF
    have ho : ∀ (x y z : Int32) (w : Nat), w = 5 ∨ w = 6 ∨ (14 ≤ w ∧ w < 36) ∨ (36 + nP ≤ w ∧ w < 60) → g_layer1 G f.toInt.toNat x y z (174 + 84 * f.toInt.toNat + w) = G (174 + 84 * f.toInt.toNat + w) := fun x y z w hw => by unfold g_layer1; rw [u1_o (by omega), u1_o (by omega), u1_o (by omega)]
    have ho2 : ∀ (x y z : Int32) (j : Nat), j < 174 + 84 * f.toInt.toNat ∨ 174 + 84 * f.toInt.toNat + 84 ≤ j → g_layer1 G f.toInt.toNat x y z j = G j := fun x y z w hw => by unfold g_layer1; rw [u1_o (by omega), u1_o (by omega), u1_o (by omega)]
    split
    · exact h
    · split
      · exact h.one hF (ho2 _ _ _) (WFF_layer hw l0 (by decide) (by decide)) (ho _ _ _)
      · have := ab (by omega)
        exact h.one hF (ho2 _ _ _) (WFF_layer hw l0 this.1 (by omega)) (ho _ _ _)
  · exact h
theorem n_layer {G : Nat → Int32} {nF : Nat} {f l a b : Int32} {j : Nat} (e : o_layer G nF f l a b = .inr j) : g_layer G nF f l a b = G := by
  unfold g_layer
  split
  · rename_i c
    unfold o_layer at e; rw [if_pos c] at e
    rcases z : fst1 (meets G f.toInt.toNat l a b) nF with _ | x
    · rw [z] at e; cases e
    · rfl
  · rfl
