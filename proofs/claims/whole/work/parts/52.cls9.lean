/-! THE CLASS: changes of the desk -/
/-! changes of the desk -/
def XD (I : Nat → Nat → Int32) (R : Nat → Nat → Option Nat) (L : Nat → Nat → Int64) (sh : Nat → Nat × Nat) (N : Nat) (x : Out) (P : (Nat → Nat → Int32) → (Nat → Nat → Option Nat) → Prop) : Option Value → HS → Prop :=
  fun r h' => ∃ K R', h' = (K, R', L, sh, N) ∧ r = some (.int (ansOf x)) ∧ (match x with | .inl _ => P K R' | .inr _ => FrXR R R' ∧ FrX sh (fin1 744 I x) K)
theorem XD.val {I K : Nat → Nat → Int32} {R R' : Nat → Nat → Option Nat} {L : Nat → Nat → Int64} {sh : Nat → Nat × Nat} {N : Nat} {x : Out} {P : (Nat → Nat → Int32) → (Nat → Nat → Option Nat) → Prop} {v : Int32} (e : x = .inl v) (hK : P K R') : XD I R L sh N x P (some (.int v)) (K, R', L, sh, N) := by
  subst e; exact ⟨K, R', rfl, rfl, hK⟩
theorem XD.bad {I J K : Nat → Nat → Int32} {R R' : Nat → Nat → Option Nat} {L : Nat → Nat → Int64} {sh : Nat → Nat × Nat} {N : Nat} {x : Out} {P : (Nat → Nat → Int32) → (Nat → Nat → Option Nat) → Prop} {v : Int32} (hS : ShOK sh) (j : Nat) (e : x = .inr j) (hv : v = Int32.ofInt (-32 - (j : Int))) (hR : FrXR R R') (hJ : FrX sh I J) (hK : K = u2 J 744 j (J 744 j + nI 1)) : XD I R L sh N x P (some (.int v)) (K, R', L, sh, N) := by
  obtain ⟨K2, R2, h1, h2, h3, h4⟩ := XP.bad (P := P) (L := L) (N := N) hS j e hv hR hJ hK
  subst e
  exact ⟨K2, R2, h1, h2, h3, h4⟩
/-- but for desk 0 (and scratch) all stays -/
def FrD (sh : Nat → Nat × Nat) (I K : Nat → Nat → Int32) : Prop := ∀ a j, ¬ scX sh a → (a = 0 ∨ 240 ≤ a) → K a j = I a j
def FrRD (R R' : Nat → Nat → Option Nat) : Prop := (∀ a j, (a = 0 ∨ (240 ≤ a ∧ a < 479) ∨ 718 ≤ a) → a ≠ 731 → R' a j = R a j) ∧ (RfOK R → RfOK R')
theorem FrD.rf {sh : Nat → Nat × Nat} {I : Nat → Nat → Int32} : FrD sh I I := fun _ _ _ _ => rfl
theorem FrRD.rf {R : Nat → Nat → Option Nat} : FrRD R R := ⟨fun _ _ _ _ => rfl, id⟩
theorem FrD.put {sh : Nat → Nat × Nat} {I J K : Nat → Nat → Int32} {a j : Nat} {v : Int32} (h : FrD sh I J) (e : K = u2 J a j v) (hc : (1 ≤ a ∧ a < 240) ∨ scX sh a) : FrD sh I K := by
  intro b i q z
  subst e
  rw [← h b i q z]
  unfold u2
  rw [if_neg (fun y => by
    rcases hc with w | w
    · rw [← y.1] at w; omega
    · exact q (by rw [y.1]; exact w))]
theorem FrX.d {sh : Nat → Nat × Nat} {I J : Nat → Nat → Int32} (h : FrX sh I J) : FrD sh I J := fun a j q _ => h a j q
theorem FrD.tr {sh : Nat → Nat × Nat} {I J K : Nat → Nat → Int32} (h : FrD sh I J) (h2 : FrD sh J K) : FrD sh I K := fun a j q z => (h2 a j q z).trans (h a j q z)
/-- what a call that changes the desk leaves -/
def PD (tK tF tC tS : Nat → Int32) (I : Nat → Nat → Int32) (R : Nat → Nat → Option Nat) (sh : Nat → Nat × Nat) (nt : Nat) (G' : Nat → Int32) (nP nF nS : Nat) : (Nat → Nat → Int32) → (Nat → Nat → Option Nat) → Prop := fun K R' => FrD sh I K ∧ FrRD R R' ∧ DR tK tF tC tS K R' sh nt 0 G' nP nF nS
theorem oB_c {G G' : Nat → Int32} {F n : Nat} {key : Int32} (h : ∀ k, k < n → G' (174 + 84 * F + (20 + 2 * k)) = G (174 + 84 * F + (20 + 2 * k))) : oB G' F n key = oB G F n key := fst1_congr (fun k hk => by rw [h k hk])
theorem ovV_c {G G' : Nat → Int32} {F : Nat} {key : Int32} (h : ∀ w, w = 6 ∨ (20 ≤ w ∧ w < 36) → G' (174 + 84 * F + w) = G (174 + 84 * F + w)) (h8 : nOof G F ≤ 8) : ovV G' F key = ovV G F key := by
  unfold nOof at h8
  unfold ovV
  rw [h 6 (by omega), oB_c (G := G) (fun k hk => h (20 + 2 * k) (by omega))]
  cases e : oB G F (G (174 + 84 * F + 6)).toInt.toNat key with
  | none => rfl
  | some k =>
    obtain ⟨hk, -, -⟩ := fst1_spec (show fst1 _ _ = some k from e)
    exact h (20 + 2 * k + 1) (by omega)
theorem RR.c {K F C S : Nat → Int32} {I J : Nat → Nat → Int32} {R R' : Nat → Nat → Option Nat} {sh : Nat → Nat × Nat} {nt d E r : Nat} {G G' : Nat → Int32} (h : RR K F C S I R sh nt d G E r) (hJ : ∀ a j, 781 ≤ a → (sh a).1 ≠ 14 → J a j = I a j) (hR : ∀ a j, 781 ≤ a → R' a j = R a j) (h1 : ∀ j, J (ru d E r) j = I (ru d E r) j) (h2 : ∀ j, J (ru d E r + 1) j = I (ru d E r + 1) j) (h3 : R' (ru d E r) 0 = R (ru d E r) 0) (hG : ∀ k, k < 4 → G' (174 + 84 * E + 60 + 4 * r + k) = G (174 + 84 * E + 60 + 4 * r + k)) : RR K F C S J R' sh nt d G' E r := by
  obtain ⟨a1, a2, c, m, b, a3, a4, a5⟩ := h
  refine ⟨?_, ?_, c, m, b, by rw [h3]; exact a3, a4.fr hJ hR, ?_⟩
  · rw [h1, hG 1 (by omega)]; exact a1
  · rw [h1, h2, h2, h2, hG 1 (by omega), hG 2 (by omega), hG 3 (by omega)]; exact a2
  · rw [hG 0 (by omega)]; exact a5
/-- a feature's picture where nothing of it changed -/
theorem FR.c {K F C S : Nat → Int32} {I J : Nat → Nat → Int32} {R R' : Nat → Nat → Option Nat} {sh : Nat → Nat × Nat} {nt d nP nF E : Nat} {G G' : Nat → Int32} (hw : WFF G nF nt E) (h : FR K F C S I R sh nt d G nP E) (hJ : ∀ a j, 781 ≤ a → (sh a).1 ≠ 14 → J a j = I a j) (hR : ∀ a j, 781 ≤ a → R' a j = R a j) (h1 : ∀ k j, k < 19 → J (fe d E + k) j = I (fe d E + k) j) (h1R : ∀ k j, k < 19 → R' (fe d E + k) j = R (fe d E + k) j) (hG : ∀ w, w < 84 → G' (174 + 84 * E + w) = G (174 + 84 * E + w)) (hGp : ∀ p, p < nP → G' (6 + 2 * p) = G (6 + 2 * p)) : FR K F C S J R' sh nt d G' nP E := by
  obtain ⟨tp, kl, sk, fb, nR, nN, nO, fr, to, -, -, -, -, ⟨-, b4, c4, -⟩, ⟨-, b5, c5, -⟩, ⟨-, b6, c6, -⟩, -⟩ := wfn hw
  obtain ⟨⟨x0, x1, x2, x3, x4, x5, x6, x7, x8⟩, y2, y3, y4, y5, y6⟩ := h
  have g0 : ∀ j, J (fe d E) j = I (fe d E) j := fun j => h1 0 j (by omega)
  have hr : nRof G' E = nRof G E := by unfold nRof; rw [hG 4 (by omega)]
  have hn : nNof G' E = nNof G E := by unfold nNof; rw [hG 5 (by omega)]
  have hr6 : nRof G E ≤ 6 := by unfold nRof; rw [b4, Int.toNat_natCast]; exact c4
  have hn3 : nNof G E ≤ 3 := by unfold nNof; rw [b5, Int.toNat_natCast]; exact c5
  have ho8 : nOof G E ≤ 8 := by unfold nOof; rw [b6, Int.toNat_natCast]; exact c6
  refine ⟨⟨by rw [g0, hG 0 (by omega)]; exact x0, by rw [g0, hG 1 (by omega)]; exact x1, by rw [g0, hG 2 (by omega)]; exact x2, by rw [g0, hG 3 (by omega)]; exact x3, by rw [g0, hG 4 (by omega)]; exact x4, by rw [g0, hG 5 (by omega)]; exact x5, by rw [g0, hG 7 (by omega)]; exact x6, by rw [g0, hG 8 (by omega)]; exact x7, by rw [g0, hG 9 (by omega)]; exact x8⟩, fun n hn2 => ?_, fun p hp => ?_, fun p hp => ?_, fun v hv => ?_, fun r hr2 => ?_⟩
  · rw [hn] at hn2
    rw [h1 2 _ (by omega), h1 3 _ (by omega), hG (14 + 2 * n) (by omega), hG (14 + 2 * n + 1) (by omega)]; exact y2 n hn2
  · rw [h1 4 _ (by omega), y3 p hp]
    by_cases q : p < nP
    · rw [if_pos q, if_pos q, hGp p q, ovV_c (fun w hw => hG w (by omega)) ho8]
    · rw [if_neg q, if_neg q]
  · rw [h1 5 _ (by omega), hG (36 + p) (by omega)]; exact y4 p hp
  · rw [h1 6 _ (by omega), hG (10 + v) (by omega)]; exact y5 v hv
  · rw [hr] at hr2
    refine (y6 r hr2).c hJ hR (fun j => h1 (7 + 2 * r) j (by omega)) (fun j => by have := h1 (8 + 2 * r) j (by omega); rwa [show fe d E + (8 + 2 * r) = ru d E r + 1 by unfold ru; omega] at this) (h1R (7 + 2 * r) 0 (by omega)) (fun k hk => ?_)
    have := hG (60 + 4 * r + k) (by omega)
    rwa [show 174 + 84 * E + (60 + 4 * r + k) = 174 + 84 * E + 60 + 4 * r + k by omega] at this
theorem FZ.c {I J : Nat → Nat → Int32} {d E : Nat} (h : FZ I d E) (h1 : ∀ k j, k < 19 → J (fe d E + k) j = I (fe d E + k) j) : FZ J d E := by
  obtain ⟨x1, x2, x3⟩ := h
  have g0 : ∀ j, J (fe d E) j = I (fe d E) j := fun j => h1 0 j (by omega)
  exact ⟨by rw [g0, g0, g0, g0, g0, g0, g0, g0]; exact x1, fun p hp => by rw [h1 4 _ (by omega), h1 5 _ (by omega)]; exact x2 p hp, fun v hv => by rw [h1 6 _ (by omega)]; exact x3 v hv⟩
/-- one feature changes -/
theorem DR.feat {K F C S : Nat → Int32} {I J : Nat → Nat → Int32} {R R' : Nat → Nat → Option Nat} {sh : Nat → Nat × Nat} {nt d nP nF nS E : Nat} {G G' : Nat → Int32} (hW : WFA G nP nF nt) (hT : WFT G nF nS) (hd : d < 3) (hE : E < nF) (h : DR K F C S I R sh nt d G nP nF nS) (hJ : ∀ a j, 781 ≤ a → (sh a).1 ≠ 14 → J a j = I a j) (hR : ∀ a j, 781 ≤ a → R' a j = R a j) (h1 : ∀ a j, dk d ≤ a → a < dk d + 239 → ¬ (fe d E ≤ a ∧ a < fe d E + 19) → J a j = I a j) (h1R : ∀ a j, dk d ≤ a → a < dk d + 239 → ¬ (fe d E ≤ a ∧ a < fe d E + 19) → R' a j = R a j)
    (hG : ∀ j, j < 174 + 84 * E ∨ 174 + 84 * E + 84 ≤ j → G' j = G j) (hFR : FR K F C S J R' sh nt d G' nP E) : DR K F C S J R' sh nt d G' nP nF nS := by
  obtain ⟨hPc, hP24, hFc, hF12, hWF, hWP⟩ := hW
  have hS24 := hT.2.1
  have hfe : ∀ E, E < 12 → dk d + 11 ≤ fe d E ∧ fe d E + 19 ≤ dk d + 239 := fun E hE => by unfold fe dk; omega
  have hfd : ∀ E2, E2 ≠ E → ∀ k, k < 19 → ¬ (fe d E ≤ fe d E2 + k ∧ fe d E2 + k < fe d E + 19) := fun E2 h2 k hk => by unfold fe; omega
  have q0 := hfe E (by omega)
  obtain ⟨⟨a1, a2, a3, a4, a5, a6⟩, b, c, e, f⟩ := h
  refine ⟨⟨by rw [h1 _ _ (by omega) (by omega) (by omega)]; exact a1, by rw [h1 _ _ (by omega) (by omega) (by omega)]; exact a2, by rw [h1 _ _ (by omega) (by omega) (by omega), hG _ (by omega)]; exact a3, by rw [h1 _ _ (by omega) (by omega) (by omega), hG _ (by omega)]; exact a4, by rw [h1 _ _ (by omega) (by omega) (by omega), hG _ (by omega)]; exact a5, by rw [h1 _ _ (by omega) (by omega) (by omega)]; exact a6⟩, fun p hp => ?_, fun i hi => ?_, fun E2 hE2 => ?_, fun E2 h2 hE2 => ?_⟩
  · rw [h1 _ _ (by omega) (by omega) (by omega), h1 _ _ (by omega) (by omega) (by omega), hG _ (by omega), hG _ (by omega)]; exact b p hp
  · rw [h1 _ _ (by omega) (by omega) (by omega), h1 _ _ (by omega) (by omega) (by omega), h1 _ _ (by omega) (by omega) (by omega), h1 _ _ (by omega) (by omega) (by omega), h1 _ _ (by omega) (by omega) (by omega), hG _ (by omega), hG _ (by omega), hG _ (by omega), hG _ (by omega), hG _ (by omega)]; exact c i hi
  · by_cases q : E2 = E
    · subst q; exact hFR
    · have q1 := hfe E2 (by omega)
      exact (e E2 hE2).c (hWF E2 hE2) hJ hR (fun k j hk => h1 _ _ (by omega) (by omega) (hfd E2 q k hk)) (fun k j hk => h1R _ _ (by omega) (by omega) (hfd E2 q k hk)) (fun w hw => hG _ (by omega)) (fun p hp => hG _ (by omega))
  · have q1 := hfe E2 hE2
    exact (f E2 h2 hE2).c (fun k j hk => h1 _ _ (by omega) (by omega) (hfd E2 (by omega) k hk))
theorem FR.s1 {K F C S : Nat → Int32} {I J : Nat → Nat → Int32} {R : Nat → Nat → Option Nat} {sh : Nat → Nat × Nat} {nt d nP nF E : Nat} {G : Nat → Int32} {v : Int32} (hd : d < 3) (hE : E < 12) (hP : nP ≤ 24) (hw : WFF G nF nt E) (h : FR K F C S I R sh nt d G nP E) (e : J = u2 I (fe d E) 1 v) : FR K F C S J R sh nt d (u1 G (174 + 84 * E + 1) v) nP E := by
  obtain ⟨tp, kl, sk, fb, nR, nN, nO, fr, to, -, -, -, -, ⟨-, b4, c4, -⟩, ⟨-, b5, c5, -⟩, ⟨-, b6, c6, -⟩, -⟩ := wfn hw
  obtain ⟨⟨x0, x1, x2, x3, x4, x5, x6, x7, x8⟩, y2, y3, y4, y5, y6⟩ := h
  have hfl := fe_lt hd hE
  have hr : nRof (u1 G (174 + 84 * E + 1) v) E = nRof G E := by unfold nRof; rw [u1_o (by omega)]
  have hn : nNof (u1 G (174 + 84 * E + 1) v) E = nNof G E := by unfold nNof; rw [u1_o (by omega)]
  have hr6 : nRof G E ≤ 6 := by unfold nRof; rw [b4, Int.toNat_natCast]; exact c4
  have hn3 : nNof G E ≤ 3 := by unfold nNof; rw [b5, Int.toNat_natCast]; exact c5
  have ho8 : nOof G E ≤ 8 := by unfold nOof; rw [b6, Int.toNat_natCast]; exact c6
  refine ⟨⟨by rw [rd_nk e (by decide), u1_o (by omega)]; exact x0, by rw [rd_eq e, u1_i], by rw [rd_nk e (by decide), u1_o (by omega)]; exact x2, by rw [rd_nk e (by decide), u1_o (by omega)]; exact x3, by rw [rd_nk e (by decide), u1_o (by omega)]; exact x4, by rw [rd_nk e (by decide), u1_o (by omega)]; exact x5, by rw [rd_nk e (by decide), u1_o (by omega)]; exact x6, by rw [rd_nk e (by decide), u1_o (by omega)]; exact x7, by rw [rd_nk e (by decide), u1_o (by omega)]; exact x8⟩, fun n hn2 => ?_, fun p hp => ?_, fun p hp => ?_, fun v hv => ?_, fun r hr2 => ?_⟩
  · rw [hn] at hn2
    rw [rd_ne e (by omega), rd_ne e (by omega), u1_o (by omega), u1_o (by omega)]; exact y2 n hn2
  · rw [rd_ne e (by omega), y3 p hp]
    by_cases q : p < nP
    · rw [if_pos q, if_pos q, u1_o (by omega), ovV_c (fun w hw => u1_o (by omega)) ho8]
    · rw [if_neg q, if_neg q]
  · rw [rd_ne e (by omega), u1_o (by omega)]; exact y4 p hp
  · rw [rd_ne e (by omega), u1_o (by omega)]; exact y5 v hv
  · rw [hr] at hr2
    exact (y6 r hr2).c (fun a j h1 _ => rd_ne e (by omega)) (fun _ _ _ => rfl) (fun j => rd_ne e (by unfold ru; omega)) (fun j => rd_ne e (by unfold ru; omega)) rfl (fun k hk => u1_o (by omega))
theorem FR.s2 {K F C S : Nat → Int32} {I J : Nat → Nat → Int32} {R : Nat → Nat → Option Nat} {sh : Nat → Nat × Nat} {nt d nP nF E : Nat} {G : Nat → Int32} {v : Int32} (hd : d < 3) (hE : E < 12) (hP : nP ≤ 24) (hw : WFF G nF nt E) (h : FR K F C S I R sh nt d G nP E) (e : J = u2 I (fe d E) 2 v) : FR K F C S J R sh nt d (u1 G (174 + 84 * E + 2) v) nP E := by
  obtain ⟨tp, kl, sk, fb, nR, nN, nO, fr, to, -, -, -, -, ⟨-, b4, c4, -⟩, ⟨-, b5, c5, -⟩, ⟨-, b6, c6, -⟩, -⟩ := wfn hw
  obtain ⟨⟨x0, x1, x2, x3, x4, x5, x6, x7, x8⟩, y2, y3, y4, y5, y6⟩ := h
  have hfl := fe_lt hd hE
  have hr : nRof (u1 G (174 + 84 * E + 2) v) E = nRof G E := by unfold nRof; rw [u1_o (by omega)]
  have hn : nNof (u1 G (174 + 84 * E + 2) v) E = nNof G E := by unfold nNof; rw [u1_o (by omega)]
  have hr6 : nRof G E ≤ 6 := by unfold nRof; rw [b4, Int.toNat_natCast]; exact c4
  have hn3 : nNof G E ≤ 3 := by unfold nNof; rw [b5, Int.toNat_natCast]; exact c5
  have ho8 : nOof G E ≤ 8 := by unfold nOof; rw [b6, Int.toNat_natCast]; exact c6
  refine ⟨⟨by rw [rd_nk e (by decide), u1_o (by omega)]; exact x0, by rw [rd_nk e (by decide), u1_o (by omega)]; exact x1, by rw [rd_eq e, u1_i], by rw [rd_nk e (by decide), u1_o (by omega)]; exact x3, by rw [rd_nk e (by decide), u1_o (by omega)]; exact x4, by rw [rd_nk e (by decide), u1_o (by omega)]; exact x5, by rw [rd_nk e (by decide), u1_o (by omega)]; exact x6, by rw [rd_nk e (by decide), u1_o (by omega)]; exact x7, by rw [rd_nk e (by decide), u1_o (by omega)]; exact x8⟩, fun n hn2 => ?_, fun p hp => ?_, fun p hp => ?_, fun v hv => ?_, fun r hr2 => ?_⟩
  · rw [hn] at hn2
    rw [rd_ne e (by omega), rd_ne e (by omega), u1_o (by omega), u1_o (by omega)]; exact y2 n hn2
  · rw [rd_ne e (by omega), y3 p hp]
    by_cases q : p < nP
    · rw [if_pos q, if_pos q, u1_o (by omega), ovV_c (fun w hw => u1_o (by omega)) ho8]
    · rw [if_neg q, if_neg q]
  · rw [rd_ne e (by omega), u1_o (by omega)]; exact y4 p hp
  · rw [rd_ne e (by omega), u1_o (by omega)]; exact y5 v hv
  · rw [hr] at hr2
    exact (y6 r hr2).c (fun a j h1 _ => rd_ne e (by omega)) (fun _ _ _ => rfl) (fun j => rd_ne e (by unfold ru; omega)) (fun j => rd_ne e (by unfold ru; omega)) rfl (fun k hk => u1_o (by omega))
theorem FR.s3 {K F C S : Nat → Int32} {I J : Nat → Nat → Int32} {R : Nat → Nat → Option Nat} {sh : Nat → Nat × Nat} {nt d nP nF E : Nat} {G : Nat → Int32} {v : Int32} (hd : d < 3) (hE : E < 12) (hP : nP ≤ 24) (hw : WFF G nF nt E) (h : FR K F C S I R sh nt d G nP E) (e : J = u2 I (fe d E) 3 v) : FR K F C S J R sh nt d (u1 G (174 + 84 * E + 3) v) nP E := by
  obtain ⟨tp, kl, sk, fb, nR, nN, nO, fr, to, -, -, -, -, ⟨-, b4, c4, -⟩, ⟨-, b5, c5, -⟩, ⟨-, b6, c6, -⟩, -⟩ := wfn hw
  obtain ⟨⟨x0, x1, x2, x3, x4, x5, x6, x7, x8⟩, y2, y3, y4, y5, y6⟩ := h
  have hfl := fe_lt hd hE
  have hr : nRof (u1 G (174 + 84 * E + 3) v) E = nRof G E := by unfold nRof; rw [u1_o (by omega)]
  have hn : nNof (u1 G (174 + 84 * E + 3) v) E = nNof G E := by unfold nNof; rw [u1_o (by omega)]
  have hr6 : nRof G E ≤ 6 := by unfold nRof; rw [b4, Int.toNat_natCast]; exact c4
  have hn3 : nNof G E ≤ 3 := by unfold nNof; rw [b5, Int.toNat_natCast]; exact c5
  have ho8 : nOof G E ≤ 8 := by unfold nOof; rw [b6, Int.toNat_natCast]; exact c6
  refine ⟨⟨by rw [rd_nk e (by decide), u1_o (by omega)]; exact x0, by rw [rd_nk e (by decide), u1_o (by omega)]; exact x1, by rw [rd_nk e (by decide), u1_o (by omega)]; exact x2, by rw [rd_eq e, u1_i], by rw [rd_nk e (by decide), u1_o (by omega)]; exact x4, by rw [rd_nk e (by decide), u1_o (by omega)]; exact x5, by rw [rd_nk e (by decide), u1_o (by omega)]; exact x6, by rw [rd_nk e (by decide), u1_o (by omega)]; exact x7, by rw [rd_nk e (by decide), u1_o (by omega)]; exact x8⟩, fun n hn2 => ?_, fun p hp => ?_, fun p hp => ?_, fun v hv => ?_, fun r hr2 => ?_⟩
  · rw [hn] at hn2
    rw [rd_ne e (by omega), rd_ne e (by omega), u1_o (by omega), u1_o (by omega)]; exact y2 n hn2
  · rw [rd_ne e (by omega), y3 p hp]
    by_cases q : p < nP
    · rw [if_pos q, if_pos q, u1_o (by omega), ovV_c (fun w hw => u1_o (by omega)) ho8]
    · rw [if_neg q, if_neg q]
  · rw [rd_ne e (by omega), u1_o (by omega)]; exact y4 p hp
  · rw [rd_ne e (by omega), u1_o (by omega)]; exact y5 v hv
  · rw [hr] at hr2
    exact (y6 r hr2).c (fun a j h1 _ => rd_ne e (by omega)) (fun _ _ _ => rfl) (fun j => rd_ne e (by unfold ru; omega)) (fun j => rd_ne e (by unfold ru; omega)) rfl (fun k hk => u1_o (by omega))
theorem FR.s12 {K F C S : Nat → Int32} {I J : Nat → Nat → Int32} {R : Nat → Nat → Option Nat} {sh : Nat → Nat × Nat} {nt d nP nF E : Nat} {G : Nat → Int32} {v : Int32} (hd : d < 3) (hE : E < 12) (hP : nP ≤ 24) (hw : WFF G nF nt E) (h : FR K F C S I R sh nt d G nP E) (e : J = u2 I (fe d E) 12 v) : FR K F C S J R sh nt d (u1 G (174 + 84 * E + 7) v) nP E := by
  obtain ⟨tp, kl, sk, fb, nR, nN, nO, fr, to, -, -, -, -, ⟨-, b4, c4, -⟩, ⟨-, b5, c5, -⟩, ⟨-, b6, c6, -⟩, -⟩ := wfn hw
  obtain ⟨⟨x0, x1, x2, x3, x4, x5, x6, x7, x8⟩, y2, y3, y4, y5, y6⟩ := h
  have hfl := fe_lt hd hE
  have hr : nRof (u1 G (174 + 84 * E + 7) v) E = nRof G E := by unfold nRof; rw [u1_o (by omega)]
  have hn : nNof (u1 G (174 + 84 * E + 7) v) E = nNof G E := by unfold nNof; rw [u1_o (by omega)]
  have hr6 : nRof G E ≤ 6 := by unfold nRof; rw [b4, Int.toNat_natCast]; exact c4
  have hn3 : nNof G E ≤ 3 := by unfold nNof; rw [b5, Int.toNat_natCast]; exact c5
  have ho8 : nOof G E ≤ 8 := by unfold nOof; rw [b6, Int.toNat_natCast]; exact c6
  refine ⟨⟨by rw [rd_nk e (by decide), u1_o (by omega)]; exact x0, by rw [rd_nk e (by decide), u1_o (by omega)]; exact x1, by rw [rd_nk e (by decide), u1_o (by omega)]; exact x2, by rw [rd_nk e (by decide), u1_o (by omega)]; exact x3, by rw [rd_nk e (by decide), u1_o (by omega)]; exact x4, by rw [rd_nk e (by decide), u1_o (by omega)]; exact x5, by rw [rd_eq e, u1_i], by rw [rd_nk e (by decide), u1_o (by omega)]; exact x7, by rw [rd_nk e (by decide), u1_o (by omega)]; exact x8⟩, fun n hn2 => ?_, fun p hp => ?_, fun p hp => ?_, fun v hv => ?_, fun r hr2 => ?_⟩
  · rw [hn] at hn2
    rw [rd_ne e (by omega), rd_ne e (by omega), u1_o (by omega), u1_o (by omega)]; exact y2 n hn2
  · rw [rd_ne e (by omega), y3 p hp]
    by_cases q : p < nP
    · rw [if_pos q, if_pos q, u1_o (by omega), ovV_c (fun w hw => u1_o (by omega)) ho8]
    · rw [if_neg q, if_neg q]
  · rw [rd_ne e (by omega), u1_o (by omega)]; exact y4 p hp
  · rw [rd_ne e (by omega), u1_o (by omega)]; exact y5 v hv
  · rw [hr] at hr2
    exact (y6 r hr2).c (fun a j h1 _ => rd_ne e (by omega)) (fun _ _ _ => rfl) (fun j => rd_ne e (by unfold ru; omega)) (fun j => rd_ne e (by unfold ru; omega)) rfl (fun k hk => u1_o (by omega))
theorem FR.s13 {K F C S : Nat → Int32} {I J : Nat → Nat → Int32} {R : Nat → Nat → Option Nat} {sh : Nat → Nat × Nat} {nt d nP nF E : Nat} {G : Nat → Int32} {v : Int32} (hd : d < 3) (hE : E < 12) (hP : nP ≤ 24) (hw : WFF G nF nt E) (h : FR K F C S I R sh nt d G nP E) (e : J = u2 I (fe d E) 13 v) : FR K F C S J R sh nt d (u1 G (174 + 84 * E + 8) v) nP E := by
  obtain ⟨tp, kl, sk, fb, nR, nN, nO, fr, to, -, -, -, -, ⟨-, b4, c4, -⟩, ⟨-, b5, c5, -⟩, ⟨-, b6, c6, -⟩, -⟩ := wfn hw
  obtain ⟨⟨x0, x1, x2, x3, x4, x5, x6, x7, x8⟩, y2, y3, y4, y5, y6⟩ := h
  have hfl := fe_lt hd hE
  have hr : nRof (u1 G (174 + 84 * E + 8) v) E = nRof G E := by unfold nRof; rw [u1_o (by omega)]
  have hn : nNof (u1 G (174 + 84 * E + 8) v) E = nNof G E := by unfold nNof; rw [u1_o (by omega)]
  have hr6 : nRof G E ≤ 6 := by unfold nRof; rw [b4, Int.toNat_natCast]; exact c4
  have hn3 : nNof G E ≤ 3 := by unfold nNof; rw [b5, Int.toNat_natCast]; exact c5
  have ho8 : nOof G E ≤ 8 := by unfold nOof; rw [b6, Int.toNat_natCast]; exact c6
  refine ⟨⟨by rw [rd_nk e (by decide), u1_o (by omega)]; exact x0, by rw [rd_nk e (by decide), u1_o (by omega)]; exact x1, by rw [rd_nk e (by decide), u1_o (by omega)]; exact x2, by rw [rd_nk e (by decide), u1_o (by omega)]; exact x3, by rw [rd_nk e (by decide), u1_o (by omega)]; exact x4, by rw [rd_nk e (by decide), u1_o (by omega)]; exact x5, by rw [rd_nk e (by decide), u1_o (by omega)]; exact x6, by rw [rd_eq e, u1_i], by rw [rd_nk e (by decide), u1_o (by omega)]; exact x8⟩, fun n hn2 => ?_, fun p hp => ?_, fun p hp => ?_, fun v hv => ?_, fun r hr2 => ?_⟩
  · rw [hn] at hn2
    rw [rd_ne e (by omega), rd_ne e (by omega), u1_o (by omega), u1_o (by omega)]; exact y2 n hn2
  · rw [rd_ne e (by omega), y3 p hp]
    by_cases q : p < nP
    · rw [if_pos q, if_pos q, u1_o (by omega), ovV_c (fun w hw => u1_o (by omega)) ho8]
    · rw [if_neg q, if_neg q]
  · rw [rd_ne e (by omega), u1_o (by omega)]; exact y4 p hp
  · rw [rd_ne e (by omega), u1_o (by omega)]; exact y5 v hv
  · rw [hr] at hr2
    exact (y6 r hr2).c (fun a j h1 _ => rd_ne e (by omega)) (fun _ _ _ => rfl) (fun j => rd_ne e (by unfold ru; omega)) (fun j => rd_ne e (by unfold ru; omega)) rfl (fun k hk => u1_o (by omega))
theorem FR.s14 {K F C S : Nat → Int32} {I J : Nat → Nat → Int32} {R : Nat → Nat → Option Nat} {sh : Nat → Nat × Nat} {nt d nP nF E : Nat} {G : Nat → Int32} {v : Int32} (hd : d < 3) (hE : E < 12) (hP : nP ≤ 24) (hw : WFF G nF nt E) (h : FR K F C S I R sh nt d G nP E) (e : J = u2 I (fe d E) 14 v) : FR K F C S J R sh nt d (u1 G (174 + 84 * E + 9) v) nP E := by
  obtain ⟨tp, kl, sk, fb, nR, nN, nO, fr, to, -, -, -, -, ⟨-, b4, c4, -⟩, ⟨-, b5, c5, -⟩, ⟨-, b6, c6, -⟩, -⟩ := wfn hw
  obtain ⟨⟨x0, x1, x2, x3, x4, x5, x6, x7, x8⟩, y2, y3, y4, y5, y6⟩ := h
  have hfl := fe_lt hd hE
  have hr : nRof (u1 G (174 + 84 * E + 9) v) E = nRof G E := by unfold nRof; rw [u1_o (by omega)]
  have hn : nNof (u1 G (174 + 84 * E + 9) v) E = nNof G E := by unfold nNof; rw [u1_o (by omega)]
  have hr6 : nRof G E ≤ 6 := by unfold nRof; rw [b4, Int.toNat_natCast]; exact c4
  have hn3 : nNof G E ≤ 3 := by unfold nNof; rw [b5, Int.toNat_natCast]; exact c5
  have ho8 : nOof G E ≤ 8 := by unfold nOof; rw [b6, Int.toNat_natCast]; exact c6
  refine ⟨⟨by rw [rd_nk e (by decide), u1_o (by omega)]; exact x0, by rw [rd_nk e (by decide), u1_o (by omega)]; exact x1, by rw [rd_nk e (by decide), u1_o (by omega)]; exact x2, by rw [rd_nk e (by decide), u1_o (by omega)]; exact x3, by rw [rd_nk e (by decide), u1_o (by omega)]; exact x4, by rw [rd_nk e (by decide), u1_o (by omega)]; exact x5, by rw [rd_nk e (by decide), u1_o (by omega)]; exact x6, by rw [rd_nk e (by decide), u1_o (by omega)]; exact x7, by rw [rd_eq e, u1_i]⟩, fun n hn2 => ?_, fun p hp => ?_, fun p hp => ?_, fun v hv => ?_, fun r hr2 => ?_⟩
  · rw [hn] at hn2
    rw [rd_ne e (by omega), rd_ne e (by omega), u1_o (by omega), u1_o (by omega)]; exact y2 n hn2
  · rw [rd_ne e (by omega), y3 p hp]
    by_cases q : p < nP
    · rw [if_pos q, if_pos q, u1_o (by omega), ovV_c (fun w hw => u1_o (by omega)) ho8]
    · rw [if_neg q, if_neg q]
  · rw [rd_ne e (by omega), u1_o (by omega)]; exact y4 p hp
  · rw [rd_ne e (by omega), u1_o (by omega)]; exact y5 v hv
  · rw [hr] at hr2
    exact (y6 r hr2).c (fun a j h1 _ => rd_ne e (by omega)) (fun _ _ _ => rfl) (fun j => rd_ne e (by unfold ru; omega)) (fun j => rd_ne e (by unfold ru; omega)) rfl (fun k hk => u1_o (by omega))
/-- a feature of desk 0 changes by writes to its own cells alone -/
theorem DR.f1 {K F C S : Nat → Int32} {I J : Nat → Nat → Int32} {R : Nat → Nat → Option Nat} {sh : Nat → Nat × Nat} {nt nP nF nS E : Nat} {G G' : Nat → Int32} (hW : WFA G nP nF nt) (hT : WFT G nF nS) (hE : E < nF) (h : DR K F C S I R sh nt 0 G nP nF nS) (hJ : ∀ a j, ¬ (fe 0 E ≤ a ∧ a < fe 0 E + 19) → J a j = I a j) (hG : ∀ j, j < 174 + 84 * E ∨ 174 + 84 * E + 84 ≤ j → G' j = G j) (hFR : FR K F C S J R sh nt 0 G' nP E) : DR K F C S J R sh nt 0 G' nP nF nS := by
  have hfl := fe_lt (e := 0) (by decide) (show E < 12 by have := hW.2.2.2.1; omega)
  exact DR.feat hW hT (by decide) hE h (fun a j h1 _ => hJ a j (by omega)) (fun _ _ _ => rfl) (fun a j _ _ q => hJ a j q) (fun _ _ _ _ _ => rfl) hG hFR
theorem fe0_fr {sh : Nat → Nat × Nat} {I J : Nat → Nat → Int32} {E : Nat} (hE : E < 12) (h : ∀ a j, ¬ (fe 0 E ≤ a ∧ a < fe 0 E + 19) → J a j = I a j) : FrD sh I J := fun a j _ q => h a j (by have := fe_lt (e := 0) (by decide) hE; unfold dk at this; omega)
/-- the needs are no more -/
theorem FR.free {K F C S : Nat → Int32} {I J : Nat → Nat → Int32} {R : Nat → Nat → Option Nat} {sh : Nat → Nat × Nat} {nt d nP nF E : Nat} {G : Nat → Int32} (hd : d < 3) (hE : E < 12) (hP : nP ≤ 24) (hw : WFF G nF nt E) (h : FR K F C S I R sh nt d G nP E) (e : J = u2 I (fe d E) 8 (nI 0)) : FR K F C S J R sh nt d (u1 G (174 + 84 * E + 5) (nI 0)) nP E := by
  obtain ⟨tp, kl, sk, fb, nR, nN, nO, fr, to, -, -, -, -, ⟨-, b4, c4, -⟩, ⟨-, b5, c5, -⟩, ⟨-, b6, c6, -⟩, -⟩ := wfn hw
  obtain ⟨⟨x0, x1, x2, x3, x4, x5, x6, x7, x8⟩, y2, y3, y4, y5, y6⟩ := h
  have hfl := fe_lt hd hE
  have hr : nRof (u1 G (174 + 84 * E + 5) (nI 0)) E = nRof G E := by unfold nRof; rw [u1_o (by omega)]
  have hn : nNof (u1 G (174 + 84 * E + 5) (nI 0)) E = 0 := by unfold nNof; rw [u1_i]; rfl
  have hr6 : nRof G E ≤ 6 := by unfold nRof; rw [b4, Int.toNat_natCast]; exact c4
  have hn3 : nNof G E ≤ 3 := by unfold nNof; rw [b5, Int.toNat_natCast]; exact c5
  have ho8 : nOof G E ≤ 8 := by unfold nOof; rw [b6, Int.toNat_natCast]; exact c6
  refine ⟨⟨by rw [rd_nk e (by decide), u1_o (by omega)]; exact x0, by rw [rd_nk e (by decide), u1_o (by omega)]; exact x1, by rw [rd_nk e (by decide), u1_o (by omega)]; exact x2, by rw [rd_nk e (by decide), u1_o (by omega)]; exact x3, by rw [rd_nk e (by decide), u1_o (by omega)]; exact x4, by rw [rd_eq e, u1_i], by rw [rd_nk e (by decide), u1_o (by omega)]; exact x6, by rw [rd_nk e (by decide), u1_o (by omega)]; exact x7, by rw [rd_nk e (by decide), u1_o (by omega)]; exact x8⟩, fun n hn2 => ?_, fun p hp => ?_, fun p hp => ?_, fun v hv => ?_, fun r hr2 => ?_⟩
  · rw [hn] at hn2; omega
  · rw [rd_ne e (by omega), y3 p hp]
    by_cases q : p < nP
    · rw [if_pos q, if_pos q, u1_o (by omega), ovV_c (fun w hw => u1_o (by omega)) ho8]
    · rw [if_neg q, if_neg q]
  · rw [rd_ne e (by omega), u1_o (by omega)]; exact y4 p hp
  · rw [rd_ne e (by omega), u1_o (by omega)]; exact y5 v hv
  · rw [hr] at hr2
    exact (y6 r hr2).c (fun a j h1 _ => rd_ne e (by omega)) (fun _ _ _ => rfl) (fun j => rd_ne e (by unfold ru; omega)) (fun j => rd_ne e (by unfold ru; omega)) rfl (fun k hk => u1_o (by omega))
/-- a part of a rule changes -/
theorem FR.part {K F C S : Nat → Int32} {I J : Nat → Nat → Int32} {R : Nat → Nat → Option Nat} {sh : Nat → Nat × Nat} {nt d nP nF E r k : Nat} {G : Nat → Int32} {v : Int32} (hd : d < 3) (hE : E < 12) (hP : nP ≤ 24) (hw : WFF G nF nt E) (hr : r < nRof G E) (hk : 1 ≤ k ∧ k ≤ 3) (hs : ¬ 1000 ≤ (G (174 + 84 * E + 60 + 4 * r + 1)).toInt) (hv : v.toInt ≤ 333) (h : FR K F C S I R sh nt d G nP E) (e : J = u2 I (ru d E r + 1) (k - 1) v) : FR K F C S J R sh nt d (u1 G (174 + 84 * E + 60 + 4 * r + k) v) nP E := by
  obtain ⟨tp, kl, sk, fb, nR, nN, nO, fr, to, -, -, -, -, ⟨-, b4, c4, -⟩, ⟨-, b5, c5, -⟩, ⟨-, b6, c6, -⟩, -⟩ := wfn hw
  obtain ⟨⟨x0, x1, x2, x3, x4, x5, x6, x7, x8⟩, y2, y3, y4, y5, y6⟩ := h
  have hfl := fe_lt hd hE
  have hr6 : nRof G E ≤ 6 := by unfold nRof; rw [b4, Int.toNat_natCast]; exact c4
  have hn3 : nNof G E ≤ 3 := by unfold nNof; rw [b5, Int.toNat_natCast]; exact c5
  have ho8 : nOof G E ≤ 8 := by unfold nOof; rw [b6, Int.toNat_natCast]; exact c6
  have hR : nRof (u1 G (174 + 84 * E + 60 + 4 * r + k) v) E = nRof G E := by unfold nRof; rw [u1_o (by omega)]
  have hn : nNof (u1 G (174 + 84 * E + 60 + 4 * r + k) v) E = nNof G E := by unfold nNof; rw [u1_o (by omega)]
  have hq : ∀ j, j < 7 → ∀ i, J (fe d E + j) i = I (fe d E + j) i := fun j hj i => rd_ne e (by unfold ru; omega)
  have hq0 : ∀ i, J (fe d E) i = I (fe d E) i := fun i => rd_ne e (by unfold ru; omega)
  refine ⟨⟨by rw [hq0, u1_o (by omega)]; exact x0, by rw [hq0, u1_o (by omega)]; exact x1, by rw [hq0, u1_o (by omega)]; exact x2, by rw [hq0, u1_o (by omega)]; exact x3, by rw [hq0, u1_o (by omega)]; exact x4, by rw [hq0, u1_o (by omega)]; exact x5, by rw [hq0, u1_o (by omega)]; exact x6, by rw [hq0, u1_o (by omega)]; exact x7, by rw [hq0, u1_o (by omega)]; exact x8⟩, fun n hn2 => ?_, fun p hp => ?_, fun p hp => ?_, fun v hv => ?_, fun r2 hr2 => ?_⟩
  · rw [hn] at hn2
    rw [hq 2 (by omega), hq 3 (by omega), u1_o (by omega), u1_o (by omega)]; exact y2 n hn2
  · rw [hq 4 (by omega), y3 p hp]
    by_cases q : p < nP
    · rw [if_pos q, if_pos q, u1_o (by omega), ovV_c (fun w hw => u1_o (by omega)) ho8]
    · rw [if_neg q, if_neg q]
  · rw [hq 5 (by omega), u1_o (by omega)]; exact y4 p hp
  · rw [hq 6 (by omega), u1_o (by omega)]; exact y5 v hv
  · rw [hR] at hr2
    by_cases q : r2 = r
    · subst q
      obtain ⟨a1, a2, c, m, b, a3, a4, a5⟩ := y6 r2 hr2
      have hi : ∀ j, J (ru d E r2) j = I (ru d E r2) j := fun j => rd_ne e (by omega)
      obtain ⟨a20, a21, a22, a23⟩ := a2 hs
      have hs2 : ¬ 1000 ≤ (u1 G (174 + 84 * E + 60 + 4 * r2 + k) v (174 + 84 * E + 60 + 4 * r2 + 1)).toInt := by
        unfold u1; split
        · omega
        · exact hs
      refine ⟨fun z => absurd z hs2, fun _ => ⟨by rw [hi]; exact a20, ?_, ?_, ?_⟩, c, m, b, a3, a4.fr (fun a j h1 _ => rd_ne e (by unfold ru; omega)) (fun _ _ _ => rfl), by rw [u1_o (by omega)]; exact a5⟩
      · by_cases z : k = 1
        · subst z; rw [u1_i]; exact rd_eq e
        · rw [u1_o (by omega), rd_nk e (by omega)]; exact a21
      · by_cases z : k = 2
        · subst z; rw [u1_i]; exact rd_eq e
        · rw [u1_o (by omega), rd_nk e (by omega)]; exact a22
      · by_cases z : k = 3
        · subst z; rw [u1_i]; exact rd_eq e
        · rw [u1_o (by omega), rd_nk e (by omega)]; exact a23
    · exact (y6 r2 hr2).c (fun a j h1 _ => rd_ne e (by unfold ru; omega)) (fun _ _ _ => rfl) (fun j => rd_ne e (by unfold ru; omega)) (fun j => rd_ne e (by unfold ru; omega)) rfl (fun k2 hk2 => u1_o (by omega))
theorem ru_in {d E r : Nat} (hr : r < 6) : fe d E ≤ ru d E r ∧ ru d E r + 1 < fe d E + 19 := by unfold ru; omega
/-- the numbers of the desk change -/
theorem DR.head {K F C S : Nat → Int32} {I J : Nat → Nat → Int32} {R : Nat → Nat → Option Nat} {sh : Nat → Nat × Nat} {nt nP nF nS k w : Nat} {v : Int32} {G : Nat → Int32} (hW : WFA G nP nF nt) (hT : WFT G nF nS) (hk : (k = 4 ∧ w = 3) ∨ (k = 5 ∧ w = 5) ∨ (k = 6 ∧ w = 4)) (h : DR K F C S I R sh nt 0 G nP nF nS) (e : J = u2 I 1 k v) : DR K F C S J R sh nt 0 (u1 G w v) nP nF nS := by
  have hP24 := hW.2.1
  have hF12 := hW.2.2.2.1
  have hS24 := hT.2.1
  have hd : dk 0 = 1 := rfl
  obtain ⟨⟨a1, a2, a3, a4, a5, a6⟩, b, c, f, g⟩ := h
  have hj : ∀ a j, a ≠ 1 → J a j = I a j := fun a j ha => rd_ne e ha
  refine ⟨⟨by rw [hj _ _ (by omega)]; exact a1, by rw [hd, rd_nk e (by omega)]; exact a2, ?_, ?_, ?_, by rw [hj _ _ (by omega)]; exact a6⟩, fun p hp => by rw [hj _ _ (by omega), hj _ _ (by omega), u1_o (by omega), u1_o (by omega)]; exact b p hp, fun i hi => by rw [hj _ _ (by omega), hj _ _ (by omega), hj _ _ (by omega), hj _ _ (by omega), hj _ _ (by omega), u1_o (by omega), u1_o (by omega), u1_o (by omega), u1_o (by omega), u1_o (by omega)]; exact c i hi, fun E hE => ?_, fun E h2 hE => ?_⟩
  · rcases hk with q | q | q
    · obtain ⟨rfl, rfl⟩ := q; rw [hd, rd_eq e, u1_i]
    · rw [hd, rd_nk e (by omega), u1_o (by omega)]; exact a3
    · rw [hd, rd_nk e (by omega), u1_o (by omega)]; exact a3
  · rcases hk with q | q | q
    · rw [hd, rd_nk e (by omega), u1_o (by omega)]; exact a4
    · obtain ⟨rfl, rfl⟩ := q; rw [hd, rd_eq e, u1_i]
    · rw [hd, rd_nk e (by omega), u1_o (by omega)]; exact a4
  · rcases hk with q | q | q
    · rw [hd, rd_nk e (by omega), u1_o (by omega)]; exact a5
    · rw [hd, rd_nk e (by omega), u1_o (by omega)]; exact a5
    · obtain ⟨rfl, rfl⟩ := q; rw [hd, rd_eq e, u1_i]
  · have hfl := fe_lt (e := 0) (by decide) (show E < 12 by omega)
    exact (f E hE).c (hW.2.2.2.2.1 E hE) (fun a j h1 _ => hj a j (by omega)) (fun _ _ _ => rfl) (fun k j hk => hj _ _ (by omega)) (fun _ _ _ => rfl) (fun w hw => u1_o (by omega)) (fun p hp => u1_o (by omega))
  · have hfl := fe_lt (e := 0) (by decide) hE
    exact (g E h2 hE).c (fun k j hk => hj _ _ (by omega))
