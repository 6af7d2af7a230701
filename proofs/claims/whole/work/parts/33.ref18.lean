/-! THE REFERENCE: steps -/
/-! ===== steps, in the row g ===== -/
theorem WFF_congr {G G' : Nat → Int32} {nF nt F : Nat} (e : ∀ w, w < 84 → G' (174 + 84 * F + w) = G (174 + 84 * F + w)) (h : WFF G nF nt F) : WFF G' nF nt F := by
  obtain ⟨w0, w1, w2, w3, w4, w5, w6, w7, w8, w9, wN, wR, wK, wO⟩ := h
  have e4 : ∀ r k, r < 6 → k < 4 → G' (174 + 84 * F + 60 + 4 * r + k) = G (174 + 84 * F + 60 + 4 * r + k) := fun r k hr hk => by
    have := e (60 + 4 * r + k) (by omega)
    rwa [show 174 + 84 * F + (60 + 4 * r + k) = 174 + 84 * F + 60 + 4 * r + k by omega] at this
  refine ⟨by rw [e 0 (by omega)]; exact w0, by rw [e 1 (by omega)]; exact w1, by rw [e 2 (by omega)]; exact w2, by rw [e 3 (by omega)]; exact w3, by rw [e 4 (by omega)]; exact w4, by rw [e 5 (by omega)]; exact w5, by rw [e 6 (by omega)]; exact w6, by rw [e 7 (by omega)]; exact w7, by rw [e 8 (by omega)]; exact w8, by rw [e 9 (by omega)]; exact w9, fun n hn => ?_, fun r hr => ?_, fun p hp => ?_, fun k hk => ?_⟩
  · rw [e 5 (by omega)] at hn
    rw [e (14 + 2 * n) (by omega), e (14 + 2 * n + 1) (by omega)]; exact wN n hn
  · rw [e 4 (by omega)] at hr
    rw [e4 r 0 (by omega) (by omega), e4 r 1 (by omega) (by omega), e4 r 2 (by omega) (by omega), e4 r 3 (by omega) (by omega)]; exact wR r hr
  · rw [e (36 + p) (by omega)]; exact wK p hp
  · rw [e 6 (by omega)] at hk
    rw [e (20 + 2 * k + 1) (by omega)]; exact wO k hk
/-- soundness of a row g that differs in one feature alone -/
theorem WFA_one {G G' : Nat → Int32} {nP nF nt F : Nat} (h : WFA G nP nF nt) (hF : F < nF) (e : ∀ j, j < 174 + 84 * F ∨ 174 + 84 * F + 84 ≤ j → G' j = G j) (hw : WFF G' nF nt F) : WFA G' nP nF nt := by
  obtain ⟨h1, h2, h3, h4, h5, h6⟩ := h
  refine ⟨by rw [e 0 (by omega)]; exact h1, h2, by rw [e 1 (by omega)]; exact h3, h4, fun E hE => ?_, fun p hp => ?_⟩
  · by_cases q : E = F
    · subst q; exact hw
    · exact WFF_congr (fun w hw => e _ (by omega)) (h5 E hE)
  · rw [e (6 + 2 * p + 1) (by omega), e (6 + 2 * p) (by omega)]; exact h6 p hp
/-- soundness of a row g that differs but ahead of the features, not in the persons -/
theorem WFA_head {G G' : Nat → Int32} {nP nF nt : Nat} (h : WFA G nP nF nt) (e : ∀ j, j = 0 ∨ j = 1 ∨ (6 ≤ j ∧ j < 54) ∨ 174 ≤ j → G' j = G j) : WFA G' nP nF nt := by
  obtain ⟨h1, h2, h3, h4, h5, h6⟩ := h
  exact ⟨by rw [e 0 (by omega)]; exact h1, h2, by rw [e 1 (by omega)]; exact h3, h4, fun E hE => WFF_congr (fun w hw => e _ (by omega)) (h5 E hE), fun p hp => by rw [e (6 + 2 * p + 1) (by omega), e (6 + 2 * p) (by omega)]; exact h6 p hp⟩
theorem RK_congr {G G' : Nat → Int32} {nP nF nt : Nat} {rk : Nat → Nat} (hW : WFA G nP nF nt) (e : ∀ F, F < nF → ∀ w, (w = 5 ∨ (14 ≤ w ∧ w < 20)) → G' (174 + 84 * F + w) = G (174 + 84 * F + w)) (h : RK G nF rk) : RK G' nF rk := by
  intro F hF
  obtain ⟨-, -, -, -, hWF, -⟩ := hW
  obtain ⟨tp, kl, sk, fb, nR, nN, nO, fr, to, -, -, -, -, -, ⟨n1, n2, n3, -⟩, -⟩ := wfn (hWF F hF)
  refine ⟨(h F hF).1, fun n hn => ?_⟩
  rw [e F hF 5 (by omega)] at hn
  have h2 := (h F hF).2 n hn
  rw [n2, Int.toNat_natCast] at hn
  unfold ndF at h2 ⊢
  rw [e F hF (14 + 2 * n) (by omega)]
  exact h2
theorem WFF_part {G : Nat → Int32} {nF nt F r k : Nat} {v : Int32} (h : WFF G nF nt F) (hr : (r : Int) < (G (174 + 84 * F + 4)).toInt) (hk : 1 ≤ k ∧ k ≤ 3) (hv : 0 ≤ v.toInt ∧ v.toInt ≤ 333) : WFF (u1 G (174 + 84 * F + 60 + 4 * r + k) v) nF nt F := by
  obtain ⟨w0, w1, w2, w3, w4, w5, w6, w7, w8, w9, wN, wR, wK, wO⟩ := h
  refine ⟨by rw [u1_o (by omega)]; exact w0, by rw [u1_o (by omega)]; exact w1, by rw [u1_o (by omega)]; exact w2, by rw [u1_o (by omega)]; exact w3, by rw [u1_o (by omega)]; exact w4, by rw [u1_o (by omega)]; exact w5, by rw [u1_o (by omega)]; exact w6, by rw [u1_o (by omega)]; exact w7, by rw [u1_o (by omega)]; exact w8, by rw [u1_o (by omega)]; exact w9, fun n hn => ?_, fun q hq => ?_, fun p hp => ?_, fun k2 hk2 => ?_⟩
  · rw [u1_o (by omega)] at hn
    rw [u1_o (by omega), u1_o (by omega)]; exact wN n hn
  · rw [u1_o (by omega)] at hq
    obtain ⟨a1, a2, a3, a4⟩ := wR q hq
    refine ⟨by rw [u1_o (by omega)]; exact a1, ?_, ?_, ?_⟩
    · unfold u1; split
      · exact Or.inr hv
      · exact a2
    · unfold u1; split
      · exact hv
      · exact a3
    · unfold u1; split
      · exact hv
      · exact a4
  · rw [u1_o (by omega)]; exact wK p hp
  · rw [u1_o (by omega)] at hk2
    rw [u1_o (by omega)]; exact wO k2 hk2
/-- what is sound in the steps -/
def WFT (G : Nat → Int32) (nF nS : Nat) : Prop := G 2 = nI nS ∧ nS ≤ 24 ∧ ∀ i, i < nS → (0 ≤ (G (54 + 5 * i)).toInt ∧ (G (54 + 5 * i)).toInt ≤ 1000000) ∧ (0 ≤ (G (54 + 5 * i + 1)).toInt ∧ (G (54 + 5 * i + 1)).toInt < (nF : Int)) ∧ (0 ≤ (G (54 + 5 * i + 2)).toInt ∧ (G (54 + 5 * i + 2)).toInt ≤ 5) ∧ (1 ≤ (G (54 + 5 * i + 3)).toInt ∧ (G (54 + 5 * i + 3)).toInt ≤ 3) ∧ 0 ≤ (G (54 + 5 * i + 4)).toInt ∧ (G (54 + 5 * i + 4)).toInt ≤ 333
theorem wsn {G : Nat → Int32} {nF nS i : Nat} (h : WFT G nF nS) (hi : i < nS) : ∃ t f r k q : Nat, (G (54 + 5 * i) = nI t ∧ (G (54 + 5 * i)).toInt = (t : Int) ∧ t ≤ 1000000) ∧ (G (54 + 5 * i + 1) = nI f ∧ (G (54 + 5 * i + 1)).toInt = (f : Int) ∧ f < nF) ∧ (G (54 + 5 * i + 2) = nI r ∧ (G (54 + 5 * i + 2)).toInt = (r : Int) ∧ r ≤ 5) ∧ (G (54 + 5 * i + 3) = nI k ∧ (G (54 + 5 * i + 3)).toInt = (k : Int) ∧ 1 ≤ k ∧ k ≤ 3) ∧ (G (54 + 5 * i + 4) = nI q ∧ (G (54 + 5 * i + 4)).toInt = (q : Int) ∧ q ≤ 333) := by
  obtain ⟨h1, h2, h3, h4, h5⟩ := h.2.2 i hi
  exact ⟨_, _, _, _, _, ⟨eq_nI (Int.toNat_of_nonneg (by omega)).symm, (Int.toNat_of_nonneg (by omega)).symm, by omega⟩, ⟨eq_nI (Int.toNat_of_nonneg (by omega)).symm, (Int.toNat_of_nonneg (by omega)).symm, by omega⟩, ⟨eq_nI (Int.toNat_of_nonneg (by omega)).symm, (Int.toNat_of_nonneg (by omega)).symm, by omega⟩, ⟨eq_nI (Int.toNat_of_nonneg (by omega)).symm, (Int.toNat_of_nonneg (by omega)).symm, by omega, by omega⟩, ⟨eq_nI (Int.toNat_of_nonneg (by omega)).symm, (Int.toNat_of_nonneg (by omega)).symm, by omega⟩⟩
/-- the step that is due first, of the first k -/
def bestI (G : Nat → Int32) (t : Int32) : Nat → Option Nat
  | 0 => none
  | k + 1 => match bestI G t k with
    | none => if (G (54 + 5 * k)).toInt ≤ t.toInt then some k else none
    | some b => if (G (54 + 5 * k)).toInt ≤ t.toInt ∧ (G (54 + 5 * k)).toInt < (G (54 + 5 * b)).toInt then some k else some b
theorem bestI_s {G : Nat → Int32} {t : Int32} {k : Nat} : bestI G t (k + 1) = (match bestI G t k with
    | none => if (G (54 + 5 * k)).toInt ≤ t.toInt then some k else none
    | some b => if (G (54 + 5 * k)).toInt ≤ t.toInt ∧ (G (54 + 5 * k)).toInt < (G (54 + 5 * b)).toInt then some k else some b) := rfl
theorem bestI_lt {G : Nat → Int32} {t : Int32} : ∀ {k b : Nat}, bestI G t k = some b → b < k
  | 0, _, h => by cases h
  | k + 1, b, h => by
    rw [bestI_s] at h
    cases e : bestI G t k with
    | none =>
      rw [e] at h; dsimp only at h
      split at h
      · cases h; omega
      · cases h
    | some c =>
      rw [e] at h; dsimp only at h
      have := bestI_lt e
      split at h
      · cases h; omega
      · cases h; omega
/-- what a step does -/
def stpP (G : Nat → Int32) (F r k : Nat) (v : Int32) : Nat → Int32 := if (r : Int) < (G (174 + 84 * F + 4)).toInt ∧ ¬ 1000 ≤ (G (174 + 84 * F + 60 + 4 * r + 1)).toInt then u1 G (174 + 84 * F + 60 + 4 * r + k) v else G
def stp1 (G : Nat → Int32) (b : Nat) : Nat → Int32 :=
  shf (u1 (stpP G (G (54 + 5 * b + 1)).toInt.toNat (G (54 + 5 * b + 2)).toInt.toNat (G (54 + 5 * b + 3)).toInt.toNat (G (54 + 5 * b + 4))) 2 (nI ((G 2).toInt.toNat - 1))) (54 + 5 * b) (54 + 5 * ((G 2).toInt.toNat - 1)) 5
def stI (t : Int32) : Nat → (Nat → Int32) → Nat × (Nat → Int32)
  | 0, G => (0, G)
  | n + 1, G => match bestI G t (n + 1) with
    | none => (0, G)
    | some b => ((stI t n (stp1 G b)).1 + 1, (stI t n (stp1 G b)).2)
theorem stpP_o {G : Nat → Int32} {F r k j : Nat} {v : Int32} (h : j < 174 + 84 * F + 60 ∨ 174 + 84 * F + 84 ≤ j) (hk : k ≤ 3) (hr : r ≤ 5) : stpP G F r k v j = G j := by
  unfold stpP; split
  · exact u1_o (by omega)
  · rfl
theorem stpP_W {G : Nat → Int32} {nP nF nt F r k : Nat} {v : Int32} (h : WFA G nP nF nt) (hF : F < nF) (hk : 1 ≤ k ∧ k ≤ 3) (hv : 0 ≤ v.toInt ∧ v.toInt ≤ 333) (hr5 : r ≤ 5) : WFA (stpP G F r k v) nP nF nt := by
  unfold stpP; split
  · next c => exact WFA_one h hF (fun j hj => u1_o (by omega)) (WFF_part (h.2.2.2.2.1 F hF) c.1 hk hv)
  · exact h
theorem stp1_o {G : Nat → Int32} {nF nS b j : Nat} (hT : WFT G nF nS) (hb : b < nS) (hj : j < 2 ∨ (3 ≤ j ∧ j < 54) ∨ 174 + 84 * nF ≤ j) : stp1 G b j = G j := by
  obtain ⟨t, f, r, k, q, ⟨-, -, -⟩, ⟨-, f1, f2⟩, ⟨-, r1, r2⟩, ⟨-, k1, k2, k3⟩, -⟩ := wsn hT hb
  have h24 := hT.2.1
  have hn : (G 2).toInt = (nS : Int) := by rw [hT.1, nI_toInt (by omega)]
  unfold stp1
  rw [hn, f1, r1, k1]
  simp only [Int.toNat_natCast]
  rw [shf_o (by omega), u1_o (by omega), stpP_o (by omega) (by omega) (by omega)]
theorem stp1_5 {G : Nat → Int32} {nF nS b F w : Nat} (hT : WFT G nF nS) (hb : b < nS) (hF : F < nF) (hw : w < 60) : stp1 G b (174 + 84 * F + w) = G (174 + 84 * F + w) := by
  obtain ⟨t, f, r, k, q, ⟨-, -, -⟩, ⟨-, f1, f2⟩, ⟨-, r1, r2⟩, ⟨-, k1, k2, k3⟩, -⟩ := wsn hT hb
  have h24 := hT.2.1
  have hn : (G 2).toInt = (nS : Int) := by rw [hT.1, nI_toInt (by omega)]
  unfold stp1
  rw [hn, f1, r1, k1]
  simp only [Int.toNat_natCast]
  rw [shf_o (by omega), u1_o (by omega), stpP_o (by omega) (by omega) (by omega)]
theorem stp1_W {G : Nat → Int32} {nP nF nt nS b : Nat} (h : WFA G nP nF nt) (hT : WFT G nF nS) (hb : b < nS) : WFA (stp1 G b) nP nF nt := by
  obtain ⟨t, f, r, k, q, ⟨-, -, -⟩, ⟨-, f1, f2⟩, ⟨-, r1, r2⟩, ⟨-, k1, k2, k3⟩, ⟨-, q1, q2⟩⟩ := wsn hT hb
  have h24 := hT.2.1
  have hn : (G 2).toInt = (nS : Int) := by rw [hT.1, nI_toInt (by omega)]
  unfold stp1
  rw [hn, f1, r1, k1]
  simp only [Int.toNat_natCast]
  refine WFA_head (stpP_W (k := k) (r := r) (v := G (54 + 5 * b + 4)) h f2 ⟨k2, k3⟩ (by rw [q1]; omega) r2) (fun j hj => ?_)
  rw [shf_o (by omega), u1_o (by omega)]
theorem stp1_T {G : Nat → Int32} {nF nS b : Nat} (hT : WFT G nF nS) (hb : b < nS) : WFT (stp1 G b) nF (nS - 1) := by
  obtain ⟨t, f, r, k, q, ⟨-, -, -⟩, ⟨-, f1, f2⟩, ⟨-, r1, r2⟩, ⟨-, k1, k2, k3⟩, -⟩ := wsn hT hb
  have h24 := hT.2.1
  have hn : (G 2).toInt = (nS : Int) := by rw [hT.1, nI_toInt (by omega)]
  have hG : ∀ j, j < 174 → j ≠ 2 → u1 (stpP G f r k (G (54 + 5 * b + 4))) 2 (nI (nS - 1)) j = G j := fun j h1 h2 => by rw [u1_o h2, stpP_o (by omega) (by omega) (by omega)]
  unfold stp1
  rw [hn, f1, r1, k1]
  simp only [Int.toNat_natCast]
  refine ⟨by rw [shf_o (by omega), u1_i], by omega, fun i hi => ?_⟩
  by_cases q : i < b
  · rw [shf_o (by omega), shf_o (by omega), shf_o (by omega), shf_o (by omega), shf_o (by omega), hG _ (by omega) (by omega), hG _ (by omega) (by omega), hG _ (by omega) (by omega), hG _ (by omega) (by omega), hG _ (by omega) (by omega)]
    exact hT.2.2 i (by omega)
  · have hx := hT.2.2 (i + 1) (by omega)
    have hs : ∀ m, m < 5 → shf (u1 (stpP G f r k (G (54 + 5 * b + 4))) 2 (nI (nS - 1))) (54 + 5 * b) (54 + 5 * (nS - 1)) 5 (54 + 5 * i + m) = G (54 + 5 * (i + 1) + m) := fun m hm => by
      unfold shf; rw [if_pos (by omega), hG _ (by omega) (by omega), show 54 + 5 * i + m + 5 = 54 + 5 * (i + 1) + m by omega]
    have h0 := hs 0 (by omega)
    simp only [Nat.add_zero] at h0
    rw [h0, hs 1 (by omega), hs 2 (by omega), hs 3 (by omega), hs 4 (by omega)]
    exact hx
theorem stI_all {t : Int32} {nP nF nt : Nat} : ∀ (nS : Nat) (G : Nat → Int32), WFA G nP nF nt → WFT G nF nS → WFA (stI t nS G).2 nP nF nt ∧ WFT (stI t nS G).2 nF (nS - (stI t nS G).1) ∧ (stI t nS G).1 ≤ nS ∧ (∀ j, j < 2 ∨ (3 ≤ j ∧ j < 54) ∨ 174 + 84 * nF ≤ j → (stI t nS G).2 j = G j) ∧ (∀ F, F < nF → ∀ w, w < 60 → (stI t nS G).2 (174 + 84 * F + w) = G (174 + 84 * F + w))
  | 0, G, h, hT => ⟨h, hT, Nat.le_refl _, fun _ _ => rfl, fun _ _ _ _ => rfl⟩
  | n + 1, G, h, hT => by
    unfold stI
    cases e : bestI G t (n + 1) with
    | none => exact ⟨h, hT, Nat.zero_le _, fun _ _ => rfl, fun _ _ _ _ => rfl⟩
    | some b =>
      have hb := bestI_lt e
      obtain ⟨h1, h2, h3, h4, h5⟩ := stI_all n (stp1 G b) (stp1_W h hT hb) (stp1_T hT hb)
      dsimp only
      exact ⟨h1, by rw [show n + 1 - ((stI t n (stp1 G b)).1 + 1) = n - (stI t n (stp1 G b)).1 by omega]; exact h2, by omega, fun j hj => (h4 j hj).trans (stp1_o hT hb hj), fun F hF w hw => (h5 F hF w hw).trans (stp1_5 hT hb hF hw)⟩
theorem stI_K {t : Int32} {nP nF nt nS : Nat} {rk : Nat → Nat} {G : Nat → Int32} (h : WFA G nP nF nt) (hT : WFT G nF nS) (hr : RK G nF rk) : RK (stI t nS G).2 nF rk := RK_congr h (fun F hF w hw => (stI_all nS G h hT).2.2.2.2 F hF w (by omega)) hr
theorem setR_u2 {I : Nat → Nat → Int32} {G : Nat → Int32} {k : Nat} {v : Int32} : u2 (setR I 762 G) 762 k v = setR I 762 (u1 G k v) := by
  funext a j
  by_cases e : a = 762 <;> by_cases e2 : j = k <;> simp [u2, setR, u1, e, e2]
theorem setR_row {I : Nat → Nat → Int32} {G : Nat → Int32} : setR I 762 G 762 = G := funext fun j => if_pos rfl
theorem l_M_stepsTill_7 {d : Nat} {J : Nat → Nat → Int32} {G : Nat → Int32} {R : Nat → Nat → Option Nat} {L : Nat → Nat → Int64} {sh : Nat → Nat × Nat} {N : Nat} (hS : ShOK sh) (hR : RfOK R) (hG : J 762 = G) {nF nS : Nat} (hT : WFT G nF nS) {t : Int32} {did : Nat} {Q : Option Value → HS → Prop} (hk : Run mi_M_stepsTill d 0 0 71 [(0, .ref 761), (1, .int t), (2, .int (nI did)), (3, .int (vo (bestI G t nS)))] [] (J, R, L, sh, N) Q) : ∀ (n_ : Nat) (k : Nat), nS - k = n_ → (k ≤ nS) → Run mi_M_stepsTill d 0 0 7 [(0, .ref 761), (1, .int t), (2, .int (nI did)), (3, .int (vo (bestI G t k))), (4, .int (nI k))] [] (J, R, L, sh, N) Q := by
  intro n_
  induction n_ using Nat.strongRecOn with | ind n_ ih_ => ?_
  intro k hn_ v0_
  have h24 := hT.2.1
  refine r_iload (pc2 := 9) d_M_stepsTill_7 rfl rfl ?_
  refine r_aload_n (x := some 761) (pc2 := 10) d_M_stepsTill_9 rfl rfl ?_
  refine q_getR (x := some 762) (pc2 := 13) d_M_stepsTill_10 rfl k_M_9 rfl (sh_761 hS) (rf_761_0 hR) ?_
  refine r_iconst (v := nI 2) (pc2 := 14) d_M_stepsTill_13 rfl (by decide) ?_
  refine q_iaload (q := 2) (x := nI nS) (pc2 := 15) d_M_stepsTill_14 rfl (sh_762 hS) (nI_toInt (by omega)) (by omega) ((congrFun hG _).trans (hT.1)) ?_
  refine q_icmp_ge (tgt := 71) (A := ((k : Nat) : Int)) (B := ((nS : Nat) : Int)) (pc2 := 18) d_M_stepsTill_15 rfl rfl (nI_toInt (by omega)) (nI_toInt (by omega)) (fun c1 => ?_) (fun c1 => ?_)
  · refine Run.sub (l2 := [(0, .ref 761), (1, .int t), (2, .int (nI did)), (3, .int (vo (bestI G t k)))]) ⟨rfl, rfl, rfl, rfl, trivial⟩ ?_
    rw [show k = nS by omega]; exact hk
  · obtain ⟨s1, s2, s3, s4, s5, ⟨ha, ha1, ha2⟩, -⟩ := wsn hT (show k < nS by omega)
    cases hb : bestI G t k with
    | none =>
      change Run _ _ _ _ _ [(0, .ref 761), (1, .int t), (2, .int (nI did)), (3, .int ((-1 : Int32))), (4, .int (nI k))] [] _ _
      refine r_aload_n (x := some 761) (pc2 := 19) d_M_stepsTill_18 rfl rfl ?_
      refine q_getR (x := some 762) (pc2 := 22) d_M_stepsTill_19 rfl k_M_9 rfl (sh_761 hS) (rf_761_0 hR) ?_
      refine r_bipush (v := nI 54) (pc2 := 24) d_M_stepsTill_22 rfl (by decide) ?_
      refine r_iconst (v := nI 5) (pc2 := 25) d_M_stepsTill_24 rfl (by decide) ?_
      refine r_iload (pc2 := 27) d_M_stepsTill_25 rfl rfl ?_
      refine q_imulN (pc2 := 28) d_M_stepsTill_27 rfl ?_
      refine q_iaddN (pc2 := 29) d_M_stepsTill_28 rfl ?_
      refine q_iaload (q := 54 + 5 * k) (x := G (54 + 5 * k)) (pc2 := 30) d_M_stepsTill_29 rfl (sh_762 hS) (nI_toInt (by omega)) (by omega) (congrFun hG _) ?_
      refine r_istore (pc2 := 32) d_M_stepsTill_30 rfl (Nat.le_of_ble_eq_true rfl) ?_
      refine r_iload (pc2 := 34) d_M_stepsTill_32 rfl rfl ?_
      refine r_iload_n (pc2 := 35) d_M_stepsTill_34 rfl rfl ?_
      refine q_icmp_gt (tgt := 63) (A := (G (54 + 5 * k)).toInt) (B := t.toInt) (pc2 := 38) d_M_stepsTill_35 rfl rfl (rfl) (rfl) (fun c2 => ?_) (fun c2 => ?_)
      · refine r_iload_n (pc2 := 64) d_M_stepsTill_63 rfl rfl ?_
        refine q_top (y := vo (bestI G t (k + 1))) (by rw [bestI_s, hb]; dsimp only; first | (rw [if_pos (by omega)]; rfl) | (rw [if_neg (by omega)]; rfl)) ?_
        refine r_istore_n (pc2 := 65) d_M_stepsTill_64 rfl rfl (Nat.le_of_ble_eq_true rfl) ?_
        refine q_iinc (b := 1) (pc2 := 68) d_M_stepsTill_65 rfl rfl (by decide) (Nat.le_of_ble_eq_true rfl) ?_
        refine r_goto (tgt := 7) d_M_stepsTill_68 rfl ?_
        refine Run.sub (l2 := [(0, .ref 761), (1, .int t), (2, .int (nI did)), (3, .int (vo (bestI G t (k + 1)))), (4, .int (nI (k + 1)))]) ⟨rfl, rfl, rfl, rfl, rfl, trivial⟩ ?_
        exact ih_ (nS - (k + 1)) (by omega) (k + 1) rfl (by omega)
      · refine r_iload_n (pc2 := 39) d_M_stepsTill_38 rfl rfl ?_
        refine q_if_lt (tgt := 58) (A := (-1 : Int)) (pc2 := 42) d_M_stepsTill_39 rfl rfl (by decide) (fun c3 => ?_) (fun c3 => ?_)
        rotate_left
        · exfalso; omega
        refine r_iload (pc2 := 60) d_M_stepsTill_58 rfl rfl ?_
        refine r_goto (tgt := 64) d_M_stepsTill_60 rfl ?_
        refine q_top (y := vo (bestI G t (k + 1))) (by rw [bestI_s, hb]; dsimp only; first | (rw [if_pos (by omega)]; rfl) | (rw [if_neg (by omega)]; rfl)) ?_
        refine r_istore_n (pc2 := 65) d_M_stepsTill_64 rfl rfl (Nat.le_of_ble_eq_true rfl) ?_
        refine q_iinc (b := 1) (pc2 := 68) d_M_stepsTill_65 rfl rfl (by decide) (Nat.le_of_ble_eq_true rfl) ?_
        refine r_goto (tgt := 7) d_M_stepsTill_68 rfl ?_
        refine Run.sub (l2 := [(0, .ref 761), (1, .int t), (2, .int (nI did)), (3, .int (vo (bestI G t (k + 1)))), (4, .int (nI (k + 1)))]) ⟨rfl, rfl, rfl, rfl, rfl, trivial⟩ ?_
        exact ih_ (nS - (k + 1)) (by omega) (k + 1) rfl (by omega)
    | some b =>
      have hbk := bestI_lt hb
      obtain ⟨q1, q2, q3, q4, q5, ⟨hc, hc1, hc2⟩, -⟩ := wsn hT (show b < nS by omega)
      change Run _ _ _ _ _ [(0, .ref 761), (1, .int t), (2, .int (nI did)), (3, .int (nI b)), (4, .int (nI k))] [] _ _
      refine r_aload_n (x := some 761) (pc2 := 19) d_M_stepsTill_18 rfl rfl ?_
      refine q_getR (x := some 762) (pc2 := 22) d_M_stepsTill_19 rfl k_M_9 rfl (sh_761 hS) (rf_761_0 hR) ?_
      refine r_bipush (v := nI 54) (pc2 := 24) d_M_stepsTill_22 rfl (by decide) ?_
      refine r_iconst (v := nI 5) (pc2 := 25) d_M_stepsTill_24 rfl (by decide) ?_
      refine r_iload (pc2 := 27) d_M_stepsTill_25 rfl rfl ?_
      refine q_imulN (pc2 := 28) d_M_stepsTill_27 rfl ?_
      refine q_iaddN (pc2 := 29) d_M_stepsTill_28 rfl ?_
      refine q_iaload (q := 54 + 5 * k) (x := G (54 + 5 * k)) (pc2 := 30) d_M_stepsTill_29 rfl (sh_762 hS) (nI_toInt (by omega)) (by omega) (congrFun hG _) ?_
      refine r_istore (pc2 := 32) d_M_stepsTill_30 rfl (Nat.le_of_ble_eq_true rfl) ?_
      refine r_iload (pc2 := 34) d_M_stepsTill_32 rfl rfl ?_
      refine r_iload_n (pc2 := 35) d_M_stepsTill_34 rfl rfl ?_
      refine q_icmp_gt (tgt := 63) (A := (G (54 + 5 * k)).toInt) (B := t.toInt) (pc2 := 38) d_M_stepsTill_35 rfl rfl (rfl) (rfl) (fun c4 => ?_) (fun c4 => ?_)
      · refine r_iload_n (pc2 := 64) d_M_stepsTill_63 rfl rfl ?_
        refine q_top (y := vo (bestI G t (k + 1))) (by rw [bestI_s, hb]; dsimp only; first | (rw [if_pos (by omega)]; rfl) | (rw [if_neg (by omega)]; rfl)) ?_
        refine r_istore_n (pc2 := 65) d_M_stepsTill_64 rfl rfl (Nat.le_of_ble_eq_true rfl) ?_
        refine q_iinc (b := 1) (pc2 := 68) d_M_stepsTill_65 rfl rfl (by decide) (Nat.le_of_ble_eq_true rfl) ?_
        refine r_goto (tgt := 7) d_M_stepsTill_68 rfl ?_
        refine Run.sub (l2 := [(0, .ref 761), (1, .int t), (2, .int (nI did)), (3, .int (vo (bestI G t (k + 1)))), (4, .int (nI (k + 1)))]) ⟨rfl, rfl, rfl, rfl, rfl, trivial⟩ ?_
        exact ih_ (nS - (k + 1)) (by omega) (k + 1) rfl (by omega)
      · refine r_iload_n (pc2 := 39) d_M_stepsTill_38 rfl rfl ?_
        refine q_if_lt (tgt := 58) (A := ((b : Nat) : Int)) (pc2 := 42) d_M_stepsTill_39 rfl rfl (nI_toInt (by omega)) (fun c5 => ?_) (fun c5 => ?_)
        · exfalso; omega
        refine r_iload (pc2 := 44) d_M_stepsTill_42 rfl rfl ?_
        refine r_aload_n (x := some 761) (pc2 := 45) d_M_stepsTill_44 rfl rfl ?_
        refine q_getR (x := some 762) (pc2 := 48) d_M_stepsTill_45 rfl k_M_9 rfl (sh_761 hS) (rf_761_0 hR) ?_
        refine r_bipush (v := nI 54) (pc2 := 50) d_M_stepsTill_48 rfl (by decide) ?_
        refine r_iconst (v := nI 5) (pc2 := 51) d_M_stepsTill_50 rfl (by decide) ?_
        refine r_iload_n (pc2 := 52) d_M_stepsTill_51 rfl rfl ?_
        refine q_imulN (pc2 := 53) d_M_stepsTill_52 rfl ?_
        refine q_iaddN (pc2 := 54) d_M_stepsTill_53 rfl ?_
        refine q_iaload (q := 54 + 5 * b) (x := G (54 + 5 * b)) (pc2 := 55) d_M_stepsTill_54 rfl (sh_762 hS) (nI_toInt (by omega)) (by omega) (congrFun hG _) ?_
        refine q_icmp_ge (tgt := 63) (A := (G (54 + 5 * k)).toInt) (B := (G (54 + 5 * b)).toInt) (pc2 := 58) d_M_stepsTill_55 rfl rfl (rfl) (rfl) (fun c6 => ?_) (fun c6 => ?_)
        · refine r_iload_n (pc2 := 64) d_M_stepsTill_63 rfl rfl ?_
          refine q_top (y := vo (bestI G t (k + 1))) (by rw [bestI_s, hb]; dsimp only; first | (rw [if_pos (by omega)]; rfl) | (rw [if_neg (by omega)]; rfl)) ?_
          refine r_istore_n (pc2 := 65) d_M_stepsTill_64 rfl rfl (Nat.le_of_ble_eq_true rfl) ?_
          refine q_iinc (b := 1) (pc2 := 68) d_M_stepsTill_65 rfl rfl (by decide) (Nat.le_of_ble_eq_true rfl) ?_
          refine r_goto (tgt := 7) d_M_stepsTill_68 rfl ?_
          refine Run.sub (l2 := [(0, .ref 761), (1, .int t), (2, .int (nI did)), (3, .int (vo (bestI G t (k + 1)))), (4, .int (nI (k + 1)))]) ⟨rfl, rfl, rfl, rfl, rfl, trivial⟩ ?_
          exact ih_ (nS - (k + 1)) (by omega) (k + 1) rfl (by omega)
        · refine r_iload (pc2 := 60) d_M_stepsTill_58 rfl rfl ?_
          refine r_goto (tgt := 64) d_M_stepsTill_60 rfl ?_
          refine q_top (y := vo (bestI G t (k + 1))) (by rw [bestI_s, hb]; dsimp only; first | (rw [if_pos (by omega)]; rfl) | (rw [if_neg (by omega)]; rfl)) ?_
          refine r_istore_n (pc2 := 65) d_M_stepsTill_64 rfl rfl (Nat.le_of_ble_eq_true rfl) ?_
          refine q_iinc (b := 1) (pc2 := 68) d_M_stepsTill_65 rfl rfl (by decide) (Nat.le_of_ble_eq_true rfl) ?_
          refine r_goto (tgt := 7) d_M_stepsTill_68 rfl ?_
          refine Run.sub (l2 := [(0, .ref 761), (1, .int t), (2, .int (nI did)), (3, .int (vo (bestI G t (k + 1)))), (4, .int (nI (k + 1)))]) ⟨rfl, rfl, rfl, rfl, rfl, trivial⟩ ?_
          exact ih_ (nS - (k + 1)) (by omega) (k + 1) rfl (by omega)
theorem c_M_isRuleN {d : Nat} {I : Nat → Nat → Int32} {R : Nat → Nat → Option Nat} {L : Nat → Nat → Int64} {sh : Nat → Nat × Nat} {N : Nat} (hS : ShOK sh) (hR : RfOK R) {nF : Nat} (hFc : I 762 1 = nI nF) (hF12 : nF ≤ 12) {F r nR : Nat} (hF : F < nF) (hr : r < 24) (hR24 : nR ≤ 24) (hnR : I 762 (174 + 84 * F + 4) = nI nR) (hnF : nF ≤ 12) (hd : 2 ≤ d) : Me mi_M_isRule d 0 0 [.ref 761, .int (nI F), .int (nI r)] (I, R, L, sh, N) (some (.int (bI (r < nR)))) (I, R, L, sh, N) := by
  have eF : (nI F).toInt = (F : Int) := nI_toInt (by omega)
  have er : (nI r).toInt = (r : Int) := nI_toInt (by omega)
  have eR : (I 762 (174 + 84 * F + 4)).toInt = (nR : Int) := by rw [hnR, nI_toInt (by omega)]
  refine Mt.of pn_M (Nat.le_of_ble_eq_true rfl) ?_
  show Run mi_M_isRule d 0 0 0 [(0, .ref 761), (1, .int (nI F)), (2, .int (nI r))] [] (I, R, L, sh, N) _
  refine r_aload_n (x := some 761) (pc2 := 1) d_M_isRule_0 rfl rfl ?_
  refine r_iload_n (pc2 := 2) d_M_isRule_1 rfl rfl ?_
  refine q_callv (M2 := mi_M_isFeature) (pc2 := 5) d_M_isRule_2 rfl k_M_72 cm_M_isFeature cv_M_isFeature (sh_761 hS) (by decide) rfl rfl rfl (Nat.le_of_ble_eq_true rfl) (c_M_isFeature (I := I) (nF := nF) (f := nI F) hS hR (hFc) hF12 (by omega)) (d2 := d - 1) (by omega) (Nat.le_of_eq (Nat.zero_add _)) (Nat.le_of_eq (Nat.zero_add _)) ?_
  refine q_bif_eq (tgt := 30) (pc2 := 8) d_M_isRule_5 rfl rfl (fun c1 => ?_) (fun c1 => ?_)
  · refine r_iconst (v := nI 0) (pc2 := 31) d_M_isRule_30 rfl (by decide) ?_
    refine Run.ret (some (.int (nI 0))) d_M_isRule_31 ⟨_, rfl, by decide⟩ ?_
    exact ⟨by rw [bI_f (by omega)]; rfl, rfl⟩
  · refine r_iload_n (pc2 := 9) d_M_isRule_8 rfl rfl ?_
    refine r_i2l (pc2 := 10) d_M_isRule_9 rfl ?_
    refine r_lconst (v := (0 : Int64)) (pc2 := 11) d_M_isRule_10 rfl (by decide) ?_
    refine r_aload_n (x := some 761) (pc2 := 12) d_M_isRule_11 rfl rfl ?_
    refine r_iload_n (pc2 := 13) d_M_isRule_12 rfl rfl ?_
    refine r_iconst (v := nI 4) (pc2 := 14) d_M_isRule_13 rfl (by decide) ?_
    refine q_callv (M2 := mi_M_of) (pc2 := 17) d_M_isRule_14 rfl k_M_76 cm_M_of cv_M_of (sh_761 hS) (by decide) rfl rfl rfl (Nat.le_of_ble_eq_true rfl) (c_M_of (I := I) (F := F) (W := 4) hS hR (by omega)) (d2 := d - 1) (by omega) (Nat.le_of_eq (Nat.zero_add _)) (Nat.le_of_eq (Nat.zero_add _)) ?_
    refine q_top (y := nI nR) (hnR) ?_
    refine r_iconst (v := nI 1) (pc2 := 18) d_M_isRule_17 rfl (by decide) ?_
    refine r_isub (pc2 := 19) d_M_isRule_18 rfl ?_
    refine r_i2l (pc2 := 20) d_M_isRule_19 rfl ?_
    refine q_calls (M2 := mi_M_in) (pc2 := 23) d_M_isRule_20 rfl k_M_68 cm_M_in cs_M_in rfl rfl (Nat.le_of_ble_eq_true rfl) (c_M_in (A := ((r : Nat) : Int)) (B := (0 : Int)) (C := ((nR : Nat) : Int) - ((1 : Nat) : Int)) (toInt64_toInt (nI_toInt (by omega))) (by decide) (toInt64_toInt (nI_sub_toInt (by omega) (by omega)))) (d2 := d - 1) (by omega) (Nat.le_of_eq (Nat.zero_add _)) (Nat.le_of_eq (Nat.zero_add _)) ?_
    refine q_bif_eq (tgt := 30) (pc2 := 26) d_M_isRule_23 rfl rfl (fun c2 => ?_) (fun c2 => ?_)
    · refine r_iconst (v := nI 0) (pc2 := 31) d_M_isRule_30 rfl (by decide) ?_
      refine Run.ret (some (.int (nI 0))) d_M_isRule_31 ⟨_, rfl, by decide⟩ ?_
      exact ⟨by rw [bI_f (by omega)]; rfl, rfl⟩
    · refine r_iconst (v := nI 1) (pc2 := 27) d_M_isRule_26 rfl (by decide) ?_
      refine r_goto (tgt := 31) d_M_isRule_27 rfl ?_
      refine Run.ret (some (.int (nI 1))) d_M_isRule_31 ⟨_, rfl, by decide⟩ ?_
      exact ⟨by rw [bI_t (by omega)]; rfl, rfl⟩
theorem l_M_stepsTill_193 {d : Nat} {I : Nat → Nat → Int32} {G2 : Nat → Int32} {R : Nat → Nat → Option Nat} {L : Nat → Nat → Int64} {sh : Nat → Nat × Nat} {N : Nat} (hS : ShOK sh) (hR : RfOK R) {nS b : Nat} (h24 : nS ≤ 24) (hb : b < nS) (hn2 : G2 2 = nI (nS - 1)) {t bv : Int32} {did : Nat} {Q : Option Value → HS → Prop} (hk : Run mi_M_stepsTill d 0 0 231 [(0, .ref 761), (1, .int t), (2, .int (nI did))] [] (setR I 762 (shf G2 (54 + 5 * b) (54 + 5 * (nS - 1)) 5), R, L, sh, N) Q) : ∀ (n_ : Nat) (k : Nat) (J : Nat → Nat → Int32), 54 + 5 * (nS - 1) - k = n_ → (J = setR I 762 (shf G2 (54 + 5 * b) k 5)) → (54 + 5 * b ≤ k ∧ k ≤ 54 + 5 * (nS - 1)) → Run mi_M_stepsTill d 0 0 193 [(0, .ref 761), (1, .int t), (2, .int (nI did)), (5, .int (nI k))] [] (J, R, L, sh, N) Q := by
  intro n_
  induction n_ using Nat.strongRecOn with | ind n_ ih_ => ?_
  intro k J hn_ v0_ v1_
  have hrow : J 762 = shf G2 (54 + 5 * b) k 5 := by rw [v0_]; exact setR_row
  refine r_iload (pc2 := 195) d_M_stepsTill_193 rfl rfl ?_
  refine r_bipush (v := nI 54) (pc2 := 197) d_M_stepsTill_195 rfl (by decide) ?_
  refine r_iconst (v := nI 5) (pc2 := 198) d_M_stepsTill_197 rfl (by decide) ?_
  refine r_aload_n (x := some 761) (pc2 := 199) d_M_stepsTill_198 rfl rfl ?_
  refine q_getR (x := some 762) (pc2 := 202) d_M_stepsTill_199 rfl k_M_9 rfl (sh_761 hS) (rf_761_0 hR) ?_
  refine r_iconst (v := nI 2) (pc2 := 203) d_M_stepsTill_202 rfl (by decide) ?_
  refine q_iaload (q := 2) (x := nI (nS - 1)) (pc2 := 204) d_M_stepsTill_203 rfl (sh_762 hS) (nI_toInt (by omega)) (by omega) ((congrFun hrow _).trans ((shf_o (by omega)).trans hn2)) ?_
  refine q_imulN (pc2 := 205) d_M_stepsTill_204 rfl ?_
  refine q_iaddN (pc2 := 206) d_M_stepsTill_205 rfl ?_
  refine q_icmp_ge (tgt := 231) (A := ((k : Nat) : Int)) (B := ((54 + (5 * (nS - 1)) : Nat) : Int)) (pc2 := 209) d_M_stepsTill_206 rfl rfl (nI_toInt (by omega)) (nI_toInt (by omega)) (fun c1 => ?_) (fun c1 => ?_)
  · refine Run.sub (l2 := [(0, .ref 761), (1, .int t), (2, .int (nI did))]) ⟨rfl, rfl, rfl, trivial⟩ ?_
    rw [v0_, show k = 54 + 5 * (nS - 1) by omega]; exact hk
  · refine r_aload_n (x := some 761) (pc2 := 210) d_M_stepsTill_209 rfl rfl ?_
    refine q_getR (x := some 762) (pc2 := 213) d_M_stepsTill_210 rfl k_M_9 rfl (sh_761 hS) (rf_761_0 hR) ?_
    refine r_iload (pc2 := 215) d_M_stepsTill_213 rfl rfl ?_
    refine r_aload_n (x := some 761) (pc2 := 216) d_M_stepsTill_215 rfl rfl ?_
    refine q_getR (x := some 762) (pc2 := 219) d_M_stepsTill_216 rfl k_M_9 rfl (sh_761 hS) (rf_761_0 hR) ?_
    refine r_iload (pc2 := 221) d_M_stepsTill_219 rfl rfl ?_
    refine r_iconst (v := nI 5) (pc2 := 222) d_M_stepsTill_221 rfl (by decide) ?_
    refine q_iaddN (pc2 := 223) d_M_stepsTill_222 rfl ?_
    refine q_iaload (q := k + 5) (x := G2 (k + 5)) (pc2 := 224) d_M_stepsTill_223 rfl (sh_762 hS) (nI_toInt (by omega)) (by omega) ((congrFun hrow _).trans (shf_o (by omega))) ?_
    refine q_iastore (q := k) (pc2 := 225) d_M_stepsTill_224 rfl (sh_762 hS) (nI_toInt (by omega)) (by omega) (fun I2 hI2 => ?_)
    refine q_iinc (b := 1) (pc2 := 228) d_M_stepsTill_225 rfl rfl (by decide) (Nat.le_of_ble_eq_true rfl) ?_
    refine r_goto (tgt := 193) d_M_stepsTill_228 rfl ?_
    refine Run.sub (l2 := [(0, .ref 761), (1, .int t), (2, .int (nI did)), (5, .int (nI (k + 1)))]) ⟨rfl, rfl, rfl, rfl, trivial⟩ ?_
    exact ih_ (54 + 5 * (nS - 1) - (k + 1)) (by omega) (k + 1) I2 rfl (by rw [hI2, v0_, setR_u2, shf_s (by omega) rfl rfl]) (by omega)
theorem l_M_stepsTill_2 {d : Nat} {I : Nat → Nat → Int32} {R : Nat → Nat → Option Nat} {L : Nat → Nat → Int64} {sh : Nat → Nat × Nat} {N : Nat} (hS : ShOK sh) (hR : RfOK R) {kA fA cA gA nk nt : Nat} {nP nF : Nat} {t : Int32} {tot : Nat} {GE : Nat → Int32} {Q : Option Value → HS → Prop} (hq : Q (some (.int (nI tot))) (setR I 762 GE, R, L, sh, N)) (hd : 6 ≤ d) : ∀ (n_ : Nat) (nS : Nat) (J : Nat → Nat → Int32) (did : Nat), nS = n_ → (J = setR I 762 (J 762)) → (WFA (J 762) nP nF nt) → (WFT (J 762) nF nS) → (did + (stI t nS (J 762)).1 = tot) → ((stI t nS (J 762)).2 = GE) → Run mi_M_stepsTill d 0 0 2 [(0, .ref 761), (1, .int t), (2, .int (nI did))] [] (J, R, L, sh, N) Q := by
  intro n_
  induction n_ using Nat.strongRecOn with | ind n_ ih_ => ?_
  intro nS J did hn_ v0_ v1_ v2_ v3_ v4_
  obtain ⟨hPc, hP24, hFc, hF12, hWF, hWP⟩ := id v1_
  have h24 := v2_.2.1
  refine r_iconst (v := (-1 : Int32)) (pc2 := 3) d_M_stepsTill_2 rfl (by decide) ?_
  refine r_istore_n (pc2 := 4) d_M_stepsTill_3 rfl rfl (Nat.le_of_ble_eq_true rfl) ?_
  refine r_iconst (v := nI 0) (pc2 := 5) d_M_stepsTill_4 rfl (by decide) ?_
  refine r_istore (pc2 := 7) d_M_stepsTill_5 rfl (Nat.le_of_ble_eq_true rfl) ?_
  refine Run.sub (l2 := [(0, .ref 761), (1, .int t), (2, .int (nI did)), (3, .int (vo (bestI (J 762) t 0))), (4, .int (nI 0))]) ⟨rfl, rfl, rfl, rfl, rfl, trivial⟩ ?_
  refine l_M_stepsTill_7 hS hR (J := J) (G := J 762) rfl v2_ (hk := ?_) _ 0 rfl (Nat.zero_le _)
  cases hb : bestI (J 762) t nS with
  | none =>
    change Run _ _ _ _ _ [(0, .ref 761), (1, .int t), (2, .int (nI did)), (3, .int ((-1 : Int32)))] [] _ _
    have hst : stI t nS (J 762) = (0, J 762) := by
      cases nS with
      | zero => rfl
      | succ n => unfold stI; rw [hb]
    rw [hst] at v3_ v4_
    refine r_iload_n (pc2 := 72) d_M_stepsTill_71 rfl rfl ?_
    refine q_if_ge (tgt := 77) (A := (-1 : Int)) (pc2 := 75) d_M_stepsTill_72 rfl rfl (by decide) (fun c1 => ?_) (fun c1 => ?_)
    · exfalso; omega
    refine r_iload_n (pc2 := 76) d_M_stepsTill_75 rfl rfl ?_
    refine Run.ret (some (.int (nI did))) d_M_stepsTill_76 ⟨_, rfl⟩ ?_
    dsimp only at v3_ v4_; rw [Nat.add_zero] at v3_; rw [v3_, v0_, v4_]; exact hq
  | some b =>
    change Run _ _ _ _ _ [(0, .ref 761), (1, .int t), (2, .int (nI did)), (3, .int (nI b))] [] _ _
    have hbk := bestI_lt hb
    obtain ⟨n, rfl⟩ : ∃ n, nS = n + 1 := ⟨nS - 1, by omega⟩
    have hst : stI t (n + 1) (J 762) = ((stI t n (stp1 (J 762) b)).1 + 1, (stI t n (stp1 (J 762) b)).2) := by conv => lhs; unfold stI; rw [hb]
    rw [hst] at v3_ v4_; dsimp only at v3_ v4_
    have hW2 := stp1_W v1_ v2_ hbk
    have hT2 := stp1_T v2_ hbk
    obtain ⟨st, sf, sr, sk, sq, ⟨y0, y1, y2⟩, ⟨f0, f1, f2⟩, ⟨r0, r1, r2⟩, ⟨k0, k1, k2, k3⟩, ⟨q0, q1, q2⟩⟩ := wsn v2_ (show b < n + 1 by omega)
    have hn : (J 762 2).toInt.toNat - 1 = n := by rw [v2_.1, nI_toInt (by omega), Int.toNat_natCast]; omega
    obtain ⟨tpsf, klsf, sksf, fbsf, nRsf, nNsf, nOsf, frsf, tosf, ⟨a0sf, b0sf, cc0sf, dd0sf⟩, ⟨a1sf, b1sf, cc1sf, dd1sf⟩, ⟨a2sf, b2sf, cc2sf, dd2sf⟩, ⟨a3sf, b3sf, cc3sf, dd3sf⟩, ⟨a4sf, b4sf, cc4sf, dd4sf⟩, ⟨a5sf, b5sf, cc5sf, dd5sf⟩, ⟨a6sf, b6sf, cc6sf, dd6sf⟩, ⟨a8sf, b8sf, cc8sf, dd8sf⟩, ⟨a9sf, b9sf, cc9sf, dd9sf⟩⟩ := wfn (hWF sf f2)
    obtain ⟨-, -, -, -, -, -, -, w7sf, -, -, wNsf, wRsf, wKsf, wOsf⟩ := hWF sf f2
    refine r_iload_n (pc2 := 72) d_M_stepsTill_71 rfl rfl ?_
    refine q_if_ge (tgt := 77) (A := ((b : Nat) : Int)) (pc2 := 75) d_M_stepsTill_72 rfl rfl (nI_toInt (by omega)) (fun c2 => ?_) (fun c2 => ?_)
    rotate_left
    · exfalso; omega
    refine r_bipush (v := nI 54) (pc2 := 79) d_M_stepsTill_77 rfl (by decide) ?_
    refine r_iconst (v := nI 5) (pc2 := 80) d_M_stepsTill_79 rfl (by decide) ?_
    refine r_iload_n (pc2 := 81) d_M_stepsTill_80 rfl rfl ?_
    refine q_imulN (pc2 := 82) d_M_stepsTill_81 rfl ?_
    refine q_iaddN (pc2 := 83) d_M_stepsTill_82 rfl ?_
    refine r_istore (pc2 := 85) d_M_stepsTill_83 rfl (Nat.le_of_ble_eq_true rfl) ?_
    refine r_aload_n (x := some 761) (pc2 := 86) d_M_stepsTill_85 rfl rfl ?_
    refine r_aload_n (x := some 761) (pc2 := 87) d_M_stepsTill_86 rfl rfl ?_
    refine q_getR (x := some 762) (pc2 := 90) d_M_stepsTill_87 rfl k_M_9 rfl (sh_761 hS) (rf_761_0 hR) ?_
    refine r_iload (pc2 := 92) d_M_stepsTill_90 rfl rfl ?_
    refine r_iconst (v := nI 1) (pc2 := 93) d_M_stepsTill_92 rfl (by decide) ?_
    refine q_iaddN (pc2 := 94) d_M_stepsTill_93 rfl ?_
    refine q_iaload (q := 54 + 5 * b + 1) (x := nI sf) (pc2 := 95) d_M_stepsTill_94 rfl (sh_762 hS) (nI_toInt (by omega)) (by omega) f0 ?_
    refine r_aload_n (x := some 761) (pc2 := 96) d_M_stepsTill_95 rfl rfl ?_
    refine q_getR (x := some 762) (pc2 := 99) d_M_stepsTill_96 rfl k_M_9 rfl (sh_761 hS) (rf_761_0 hR) ?_
    refine r_iload (pc2 := 101) d_M_stepsTill_99 rfl rfl ?_
    refine r_iconst (v := nI 2) (pc2 := 102) d_M_stepsTill_101 rfl (by decide) ?_
    refine q_iaddN (pc2 := 103) d_M_stepsTill_102 rfl ?_
    refine q_iaload (q := 54 + 5 * b + 2) (x := nI sr) (pc2 := 104) d_M_stepsTill_103 rfl (sh_762 hS) (nI_toInt (by omega)) (by omega) r0 ?_
    refine q_callv (M2 := mi_M_isRule) (pc2 := 107) d_M_stepsTill_104 rfl k_M_223 cm_M_isRule cv_M_isRule (sh_761 hS) (by decide) rfl rfl rfl (Nat.le_of_ble_eq_true rfl) (c_M_isRuleN (I := J) (F := sf) (r := sr) (nR := nRsf) hS hR (hFc) hF12 (by omega) (by omega) (by omega) (a4sf) (by omega) (by omega)) (d2 := d - 1) (by omega) (Nat.le_of_eq (Nat.zero_add _)) (Nat.le_of_eq (Nat.zero_add _)) ?_
    refine q_bif_eq (tgt := 179) (pc2 := 110) d_M_stepsTill_107 rfl rfl (fun c3 => ?_) (fun c3 => ?_)
    · refine r_aload_n (x := some 761) (pc2 := 180) d_M_stepsTill_179 rfl rfl ?_
      refine q_getR (x := some 762) (pc2 := 183) d_M_stepsTill_180 rfl k_M_9 rfl (sh_761 hS) (rf_761_0 hR) ?_
      refine r_iconst (v := nI 2) (pc2 := 184) d_M_stepsTill_183 rfl (by decide) ?_
      refine r_dup2 (pc2 := 185) d_M_stepsTill_184 rfl rfl rfl ?_
      refine q_iaload (q := 2) (x := nI (n + 1)) (pc2 := 186) d_M_stepsTill_185 rfl (sh_762 hS) (nI_toInt (by omega)) (by omega) v2_.1 ?_
      refine r_iconst (v := nI 1) (pc2 := 187) d_M_stepsTill_186 rfl (by decide) ?_
      refine q_isubN (pc2 := 188) d_M_stepsTill_187 rfl (by omega) ?_
      refine q_top (y := nI n) rfl ?_
      refine q_iastore (q := 2) (pc2 := 189) d_M_stepsTill_188 rfl (sh_762 hS) (nI_toInt (by omega)) (by omega) (fun I4 hI4 => ?_)
      refine r_iload (pc2 := 191) d_M_stepsTill_189 rfl rfl ?_
      refine r_istore (pc2 := 193) d_M_stepsTill_191 rfl (Nat.le_of_ble_eq_true rfl) ?_
      have hP2 : stpP (J 762) sf sr sk (nI sq) = J 762 := by unfold stpP; rw [if_neg (by omega)]
      have hI2 : I4 = setR I 762 (shf (u1 (stpP (J 762) sf sr sk (nI sq)) 2 (nI n)) (54 + 5 * b) (54 + 5 * b) 5) := by rw [shf_0, hP2, hI4]; rw [v0_, setR_u2, setR_row]
      have hs1 : stp1 (J 762) b = shf (u1 (stpP (J 762) sf sr sk (nI sq)) 2 (nI n)) (54 + 5 * b) (54 + 5 * n) 5 := by unfold stp1; rw [hn, f1, r1, k1, q0]; simp only [Int.toNat_natCast]
      refine Run.sub (l2 := [(0, .ref 761), (1, .int t), (2, .int (nI did)), (5, .int (nI (54 + 5 * b)))]) ⟨rfl, rfl, rfl, rfl, trivial⟩ ?_
      refine l_M_stepsTill_193 hS hR (I := I) (nS := n + 1) (b := b) (G2 := u1 (stpP (J 762) sf sr sk (nI sq)) 2 (nI n)) (by omega) hbk u1_i (bv := t) (hk := ?_) _ (54 + 5 * b) I4 rfl hI2 (by omega)
      rw [show n + 1 - 1 = n from rfl, ← hs1]
      refine q_iinc (b := 1) (pc2 := 234) d_M_stepsTill_231 rfl rfl (by decide) (Nat.le_of_ble_eq_true rfl) ?_
      refine r_goto (tgt := 2) d_M_stepsTill_234 rfl ?_
      refine Run.sub (l2 := [(0, .ref 761), (1, .int t), (2, .int (nI (did + 1)))]) ⟨rfl, rfl, rfl, trivial⟩ ?_
      exact ih_ (n) (by omega) n (setR I 762 (stp1 (J 762) b)) (did + 1) rfl (by rw [setR_row]) (by rw [setR_row]; exact hW2) (by rw [setR_row]; exact hT2) (by rw [setR_row]; omega) (by rw [setR_row]; exact v4_)
    · refine r_aload_n (x := some 761) (pc2 := 111) d_M_stepsTill_110 rfl rfl ?_
      refine r_aload_n (x := some 761) (pc2 := 112) d_M_stepsTill_111 rfl rfl ?_
      refine q_getR (x := some 762) (pc2 := 115) d_M_stepsTill_112 rfl k_M_9 rfl (sh_761 hS) (rf_761_0 hR) ?_
      refine r_iload (pc2 := 117) d_M_stepsTill_115 rfl rfl ?_
      refine r_iconst (v := nI 1) (pc2 := 118) d_M_stepsTill_117 rfl (by decide) ?_
      refine q_iaddN (pc2 := 119) d_M_stepsTill_118 rfl ?_
      refine q_iaload (q := 54 + 5 * b + 1) (x := nI sf) (pc2 := 120) d_M_stepsTill_119 rfl (sh_762 hS) (nI_toInt (by omega)) (by omega) f0 ?_
      refine r_aload_n (x := some 761) (pc2 := 121) d_M_stepsTill_120 rfl rfl ?_
      refine q_getR (x := some 762) (pc2 := 124) d_M_stepsTill_121 rfl k_M_9 rfl (sh_761 hS) (rf_761_0 hR) ?_
      refine r_iload (pc2 := 126) d_M_stepsTill_124 rfl rfl ?_
      refine r_iconst (v := nI 2) (pc2 := 127) d_M_stepsTill_126 rfl (by decide) ?_
      refine q_iaddN (pc2 := 128) d_M_stepsTill_127 rfl ?_
      refine q_iaload (q := 54 + 5 * b + 2) (x := nI sr) (pc2 := 129) d_M_stepsTill_128 rfl (sh_762 hS) (nI_toInt (by omega)) (by omega) r0 ?_
      refine q_callv (M2 := mi_M_isFixed) (pc2 := 132) d_M_stepsTill_129 rfl k_M_188 cm_M_isFixed cv_M_isFixed (sh_761 hS) (by decide) rfl rfl rfl (Nat.le_of_ble_eq_true rfl) (c_M_isFixed (I := J) (F := sf) (r := sr) hS hR (by omega) (by omega) (by omega)) (d2 := d - 1) (by omega) (Nat.le_of_eq (Nat.zero_add _)) (Nat.le_of_eq (Nat.zero_add _)) ?_
      refine q_bif_ne (tgt := 179) (pc2 := 135) d_M_stepsTill_132 rfl rfl (fun c5 => ?_) (fun c5 => ?_)
      · refine r_aload_n (x := some 761) (pc2 := 180) d_M_stepsTill_179 rfl rfl ?_
        refine q_getR (x := some 762) (pc2 := 183) d_M_stepsTill_180 rfl k_M_9 rfl (sh_761 hS) (rf_761_0 hR) ?_
        refine r_iconst (v := nI 2) (pc2 := 184) d_M_stepsTill_183 rfl (by decide) ?_
        refine r_dup2 (pc2 := 185) d_M_stepsTill_184 rfl rfl rfl ?_
        refine q_iaload (q := 2) (x := nI (n + 1)) (pc2 := 186) d_M_stepsTill_185 rfl (sh_762 hS) (nI_toInt (by omega)) (by omega) v2_.1 ?_
        refine r_iconst (v := nI 1) (pc2 := 187) d_M_stepsTill_186 rfl (by decide) ?_
        refine q_isubN (pc2 := 188) d_M_stepsTill_187 rfl (by omega) ?_
        refine q_top (y := nI n) rfl ?_
        refine q_iastore (q := 2) (pc2 := 189) d_M_stepsTill_188 rfl (sh_762 hS) (nI_toInt (by omega)) (by omega) (fun I6 hI6 => ?_)
        refine r_iload (pc2 := 191) d_M_stepsTill_189 rfl rfl ?_
        refine r_istore (pc2 := 193) d_M_stepsTill_191 rfl (Nat.le_of_ble_eq_true rfl) ?_
        have hP2 : stpP (J 762) sf sr sk (nI sq) = J 762 := by unfold stpP; rw [if_neg (by omega)]
        have hI2 : I6 = setR I 762 (shf (u1 (stpP (J 762) sf sr sk (nI sq)) 2 (nI n)) (54 + 5 * b) (54 + 5 * b) 5) := by rw [shf_0, hP2, hI6]; rw [v0_, setR_u2, setR_row]
        have hs1 : stp1 (J 762) b = shf (u1 (stpP (J 762) sf sr sk (nI sq)) 2 (nI n)) (54 + 5 * b) (54 + 5 * n) 5 := by unfold stp1; rw [hn, f1, r1, k1, q0]; simp only [Int.toNat_natCast]
        refine Run.sub (l2 := [(0, .ref 761), (1, .int t), (2, .int (nI did)), (5, .int (nI (54 + 5 * b)))]) ⟨rfl, rfl, rfl, rfl, trivial⟩ ?_
        refine l_M_stepsTill_193 hS hR (I := I) (nS := n + 1) (b := b) (G2 := u1 (stpP (J 762) sf sr sk (nI sq)) 2 (nI n)) (by omega) hbk u1_i (bv := t) (hk := ?_) _ (54 + 5 * b) I6 rfl hI2 (by omega)
        rw [show n + 1 - 1 = n from rfl, ← hs1]
        refine q_iinc (b := 1) (pc2 := 234) d_M_stepsTill_231 rfl rfl (by decide) (Nat.le_of_ble_eq_true rfl) ?_
        refine r_goto (tgt := 2) d_M_stepsTill_234 rfl ?_
        refine Run.sub (l2 := [(0, .ref 761), (1, .int t), (2, .int (nI (did + 1)))]) ⟨rfl, rfl, rfl, trivial⟩ ?_
        exact ih_ (n) (by omega) n (setR I 762 (stp1 (J 762) b)) (did + 1) rfl (by rw [setR_row]) (by rw [setR_row]; exact hW2) (by rw [setR_row]; exact hT2) (by rw [setR_row]; omega) (by rw [setR_row]; exact v4_)
      · refine r_aload_n (x := some 761) (pc2 := 136) d_M_stepsTill_135 rfl rfl ?_
        refine q_getR (x := some 762) (pc2 := 139) d_M_stepsTill_136 rfl k_M_9 rfl (sh_761 hS) (rf_761_0 hR) ?_
        refine r_aload_n (x := some 761) (pc2 := 140) d_M_stepsTill_139 rfl rfl ?_
        refine q_getR (x := some 762) (pc2 := 143) d_M_stepsTill_140 rfl k_M_9 rfl (sh_761 hS) (rf_761_0 hR) ?_
        refine r_iload (pc2 := 145) d_M_stepsTill_143 rfl rfl ?_
        refine r_iconst (v := nI 1) (pc2 := 146) d_M_stepsTill_145 rfl (by decide) ?_
        refine q_iaddN (pc2 := 147) d_M_stepsTill_146 rfl ?_
        refine q_iaload (q := 54 + 5 * b + 1) (x := nI sf) (pc2 := 148) d_M_stepsTill_147 rfl (sh_762 hS) (nI_toInt (by omega)) (by omega) f0 ?_
        refine r_aload_n (x := some 761) (pc2 := 149) d_M_stepsTill_148 rfl rfl ?_
        refine q_getR (x := some 762) (pc2 := 152) d_M_stepsTill_149 rfl k_M_9 rfl (sh_761 hS) (rf_761_0 hR) ?_
        refine r_iload (pc2 := 154) d_M_stepsTill_152 rfl rfl ?_
        refine r_iconst (v := nI 2) (pc2 := 155) d_M_stepsTill_154 rfl (by decide) ?_
        refine q_iaddN (pc2 := 156) d_M_stepsTill_155 rfl ?_
        refine q_iaload (q := 54 + 5 * b + 2) (x := nI sr) (pc2 := 157) d_M_stepsTill_156 rfl (sh_762 hS) (nI_toInt (by omega)) (by omega) r0 ?_
        refine r_aload_n (x := some 761) (pc2 := 158) d_M_stepsTill_157 rfl rfl ?_
        refine q_getR (x := some 762) (pc2 := 161) d_M_stepsTill_158 rfl k_M_9 rfl (sh_761 hS) (rf_761_0 hR) ?_
        refine r_iload (pc2 := 163) d_M_stepsTill_161 rfl rfl ?_
        refine r_iconst (v := nI 3) (pc2 := 164) d_M_stepsTill_163 rfl (by decide) ?_
        refine q_iaddN (pc2 := 165) d_M_stepsTill_164 rfl ?_
        refine q_iaload (q := 54 + 5 * b + 3) (x := nI sk) (pc2 := 166) d_M_stepsTill_165 rfl (sh_762 hS) (nI_toInt (by omega)) (by omega) k0 ?_
        refine q_calls (M2 := mi_M_ruleAt) (pc2 := 169) d_M_stepsTill_166 rfl k_M_80 cm_M_ruleAt cs_M_ruleAt rfl rfl (Nat.le_of_ble_eq_true rfl) (c_M_ruleAt (F := sf) (r := sr) (k := sk)) (d2 := d - 1) (by omega) (Nat.le_of_eq (Nat.zero_add _)) (Nat.le_of_eq (Nat.zero_add _)) ?_
        refine r_aload_n (x := some 761) (pc2 := 170) d_M_stepsTill_169 rfl rfl ?_
        refine q_getR (x := some 762) (pc2 := 173) d_M_stepsTill_170 rfl k_M_9 rfl (sh_761 hS) (rf_761_0 hR) ?_
        refine r_iload (pc2 := 175) d_M_stepsTill_173 rfl rfl ?_
        refine r_iconst (v := nI 4) (pc2 := 176) d_M_stepsTill_175 rfl (by decide) ?_
        refine q_iaddN (pc2 := 177) d_M_stepsTill_176 rfl ?_
        refine q_iaload (q := 54 + 5 * b + 4) (x := nI sq) (pc2 := 178) d_M_stepsTill_177 rfl (sh_762 hS) (nI_toInt (by omega)) (by omega) q0 ?_
        refine q_iastore (q := 174 + 84 * sf + 60 + 4 * sr + sk) (pc2 := 179) d_M_stepsTill_178 rfl (sh_762 hS) (nI_toInt (by omega)) (by omega) (fun I7 hI7 => ?_)
        refine r_aload_n (x := some 761) (pc2 := 180) d_M_stepsTill_179 rfl rfl ?_
        refine q_getR (x := some 762) (pc2 := 183) d_M_stepsTill_180 rfl k_M_9 rfl (sh_761 hS) (rf_761_0 hR) ?_
        refine r_iconst (v := nI 2) (pc2 := 184) d_M_stepsTill_183 rfl (by decide) ?_
        refine r_dup2 (pc2 := 185) d_M_stepsTill_184 rfl rfl rfl ?_
        refine q_iaload (q := 2) (x := nI (n + 1)) (pc2 := 186) d_M_stepsTill_185 rfl (sh_762 hS) (nI_toInt (by omega)) (by omega) ((rd_nk hI7 (by omega)).trans (v2_.1)) ?_
        refine r_iconst (v := nI 1) (pc2 := 187) d_M_stepsTill_186 rfl (by decide) ?_
        refine q_isubN (pc2 := 188) d_M_stepsTill_187 rfl (by omega) ?_
        refine q_top (y := nI n) rfl ?_
        refine q_iastore (q := 2) (pc2 := 189) d_M_stepsTill_188 rfl (sh_762 hS) (nI_toInt (by omega)) (by omega) (fun I8 hI8 => ?_)
        refine r_iload (pc2 := 191) d_M_stepsTill_189 rfl rfl ?_
        refine r_istore (pc2 := 193) d_M_stepsTill_191 rfl (Nat.le_of_ble_eq_true rfl) ?_
        have hP2 : stpP (J 762) sf sr sk (nI sq) = u1 (J 762) (174 + 84 * sf + 60 + 4 * sr + sk) (nI sq) := by unfold stpP; rw [if_pos ⟨by omega, by omega⟩]
        have hI2 : I8 = setR I 762 (shf (u1 (stpP (J 762) sf sr sk (nI sq)) 2 (nI n)) (54 + 5 * b) (54 + 5 * b) 5) := by rw [shf_0, hP2, hI8, hI7]; rw [v0_, setR_u2, setR_u2, setR_row]
        have hs1 : stp1 (J 762) b = shf (u1 (stpP (J 762) sf sr sk (nI sq)) 2 (nI n)) (54 + 5 * b) (54 + 5 * n) 5 := by unfold stp1; rw [hn, f1, r1, k1, q0]; simp only [Int.toNat_natCast]
        refine Run.sub (l2 := [(0, .ref 761), (1, .int t), (2, .int (nI did)), (5, .int (nI (54 + 5 * b)))]) ⟨rfl, rfl, rfl, rfl, trivial⟩ ?_
        refine l_M_stepsTill_193 hS hR (I := I) (nS := n + 1) (b := b) (G2 := u1 (stpP (J 762) sf sr sk (nI sq)) 2 (nI n)) (by omega) hbk u1_i (bv := t) (hk := ?_) _ (54 + 5 * b) I8 rfl hI2 (by omega)
        rw [show n + 1 - 1 = n from rfl, ← hs1]
        refine q_iinc (b := 1) (pc2 := 234) d_M_stepsTill_231 rfl rfl (by decide) (Nat.le_of_ble_eq_true rfl) ?_
        refine r_goto (tgt := 2) d_M_stepsTill_234 rfl ?_
        refine Run.sub (l2 := [(0, .ref 761), (1, .int t), (2, .int (nI (did + 1)))]) ⟨rfl, rfl, rfl, trivial⟩ ?_
        exact ih_ (n) (by omega) n (setR I 762 (stp1 (J 762) b)) (did + 1) rfl (by rw [setR_row]) (by rw [setR_row]; exact hW2) (by rw [setR_row]; exact hT2) (by rw [setR_row]; omega) (by rw [setR_row]; exact v4_)
theorem c_M_stepsTill {d : Nat} {I : Nat → Nat → Int32} {R : Nat → Nat → Option Nat} {L : Nat → Nat → Int64} {sh : Nat → Nat × Nat} {N : Nat} (hS : ShOK sh) (hR : RfOK R) {nP nF nt nS : Nat} {t : Int32} (hW : WFA (I 762) nP nF nt) (hT : WFT (I 762) nF nS) (hd : 6 ≤ d) : Me mi_M_stepsTill d 0 0 [.ref 761, .int t] (I, R, L, sh, N) (some (.int (nI (stI t nS (I 762)).1))) (setR I 762 (stI t nS (I 762)).2, R, L, sh, N) := by
  refine Mt.of pn_M (Nat.le_of_ble_eq_true rfl) ?_
  show Run mi_M_stepsTill d 0 0 0 [(0, .ref 761), (1, .int t)] [] (I, R, L, sh, N) _
  refine r_iconst (v := nI 0) (pc2 := 1) d_M_stepsTill_0 rfl (by decide) ?_
  refine r_istore_n (pc2 := 2) d_M_stepsTill_1 rfl rfl (Nat.le_of_ble_eq_true rfl) ?_
  refine Run.sub (l2 := [(0, .ref 761), (1, .int t), (2, .int (nI 0))]) ⟨rfl, rfl, rfl, trivial⟩ ?_
  exact l_M_stepsTill_2 hS hR (kA := 0) (fA := 0) (cA := 0) (gA := 0) (nk := 0) ⟨rfl, rfl⟩ hd _ nS I 0 rfl setR_self.symm hW hT (Nat.zero_add _) rfl
