/-! THE CLASS: override -/
/-- an override of one person changes -/
theorem FR.ov {K F C S : Nat → Int32} {I J : Nat → Nat → Int32} {R : Nat → Nat → Option Nat} {sh : Nat → Nat × Nat} {nt d nP nF E p : Nat} {G G' : Nat → Int32} {v : Int32} (hd : d < 3) (hE : E < 12) (hP : nP ≤ 24) (hp : p < nP) (hw : WFF G nF nt E) (h : FR K F C S I R sh nt d G nP E) (e : J = u2 I (fe d E + 4) p v) (hG : ∀ w, w < 84 → ¬ (w = 6 ∨ (20 ≤ w ∧ w < 36)) → G' (174 + 84 * E + w) = G (174 + 84 * E + w)) (hGp : ∀ q, q < nP → G' (6 + 2 * q) = G (6 + 2 * q)) (hv : ∀ q, q < nP → ovV G' E (G (6 + 2 * q)) = if q = p then v else ovV G E (G (6 + 2 * q))) : FR K F C S J R sh nt d G' nP E := by
  obtain ⟨tp, kl, sk, fb, nR, nN, nO, fr, to, -, -, -, -, ⟨-, b4, c4, -⟩, ⟨-, b5, c5, -⟩, ⟨-, b6, c6, -⟩, -⟩ := wfn hw
  obtain ⟨⟨x0, x1, x2, x3, x4, x5, x6, x7, x8⟩, y2, y3, y4, y5, y6⟩ := h
  have hfl := fe_lt hd hE
  have hr : nRof G' E = nRof G E := by unfold nRof; rw [hG 4 (by omega) (by omega)]
  have hn : nNof G' E = nNof G E := by unfold nNof; rw [hG 5 (by omega) (by omega)]
  have hr6 : nRof G E ≤ 6 := by unfold nRof; rw [b4, Int.toNat_natCast]; exact c4
  have hn3 : nNof G E ≤ 3 := by unfold nNof; rw [b5, Int.toNat_natCast]; exact c5
  refine ⟨⟨by rw [rd_ne e (by omega), hG 0 (by omega) (by omega)]; exact x0, by rw [rd_ne e (by omega), hG 1 (by omega) (by omega)]; exact x1, by rw [rd_ne e (by omega), hG 2 (by omega) (by omega)]; exact x2, by rw [rd_ne e (by omega), hG 3 (by omega) (by omega)]; exact x3, by rw [rd_ne e (by omega), hG 4 (by omega) (by omega)]; exact x4, by rw [rd_ne e (by omega), hG 5 (by omega) (by omega)]; exact x5, by rw [rd_ne e (by omega), hG 7 (by omega) (by omega)]; exact x6, by rw [rd_ne e (by omega), hG 8 (by omega) (by omega)]; exact x7, by rw [rd_ne e (by omega), hG 9 (by omega) (by omega)]; exact x8⟩, fun n hn2 => ?_, fun q hq => ?_, fun q hq => ?_, fun v hv => ?_, fun r hr2 => ?_⟩
  · rw [hn] at hn2
    rw [rd_ne e (by omega), rd_ne e (by omega), hG (14 + 2 * n) (by omega) (by omega), hG (14 + 2 * n + 1) (by omega) (by omega)]; exact y2 n hn2
  · by_cases z : q < nP
    · rw [if_pos z, hGp q z, hv q z]
      by_cases y : q = p
      · rw [if_pos y, y, rd_eq e]
      · rw [if_neg y, rd_nk e y, y3 q hq, if_pos z]
    · rw [if_neg z, rd_nk e (by omega), y3 q hq, if_neg z]
  · rw [rd_ne e (by omega), hG (36 + q) (by omega) (by omega)]; exact y4 q hq
  · rw [rd_ne e (by omega), hG (10 + v) (by omega) (by omega)]; exact y5 v hv
  · rw [hr] at hr2
    refine (y6 r hr2).c (fun a j h1 _ => rd_ne e (by omega)) (fun _ _ _ => rfl) (fun j => rd_ne e (by unfold ru; omega)) (fun j => rd_ne e (by unfold ru; omega)) rfl (fun k hk => ?_)
    have := hG (60 + 4 * r + k) (by omega) (by omega)
    rwa [show 174 + 84 * E + (60 + 4 * r + k) = 174 + 84 * E + 60 + 4 * r + k by omega] at this
/-- overrides have keys of their own -/
def OD (G : Nat → Int32) (E n : Nat) : Prop := ∀ i j, i < n → j < n → G (174 + 84 * E + (20 + 2 * i)) = G (174 + 84 * E + (20 + 2 * j)) → i = j
theorem ovV_at {G : Nat → Int32} {E n k : Nat} {key : Int32} (h : OD G E n) (hn : nOof G E = n) (hk : k < n) (e : G (174 + 84 * E + (20 + 2 * k)) = key) : ovV G E key = G (174 + 84 * E + (20 + 2 * k + 1)) := by
  unfold ovV
  rw [show (G (174 + 84 * E + 6)).toInt.toNat = n from hn]
  rw [show oB G E n key = some k from fst1_some (p := fun j => decide (G (174 + 84 * E + (20 + 2 * j)) = key)) (fun j hj => decide_eq_false (fun q => by have := h j k (by omega) hk (q.trans e.symm); omega)) (decide_eq_true e) hk]
theorem ovV_no {G : Nat → Int32} {E n : Nat} {key : Int32} (hn : nOof G E = n) (h : ∀ k, k < n → G (174 + 84 * E + (20 + 2 * k)) ≠ key) : ovV G E key = -1 := by
  unfold ovV
  rw [show (G (174 + 84 * E + 6)).toInt.toNat = n from hn]
  rw [show oB G E n key = none from fst1_none (p := fun j => decide (G (174 + 84 * E + (20 + 2 * j)) = key)) (fun j hj => decide_eq_false (h j hj))]
/-- a value of an override there is -/
theorem ov_put {G : Nat → Int32} {nP E n k p : Nat} {v : Int32} (hD : ∀ p q, p < nP → q < nP → G (6 + 2 * p) = G (6 + 2 * q) → p = q) (h : OD G E n) (hn : nOof G E = n) (hk : k < n) (hp : p < nP) (e : G (174 + 84 * E + (20 + 2 * k)) = G (6 + 2 * p)) : ∀ q, q < nP → ovV (u1 G (174 + 84 * E + (20 + 2 * k + 1)) v) E (G (6 + 2 * q)) = if q = p then v else ovV G E (G (6 + 2 * q)) := by
  intro q hq
  have hk1 : ∀ i, u1 G (174 + 84 * E + (20 + 2 * k + 1)) v (174 + 84 * E + (20 + 2 * i)) = G (174 + 84 * E + (20 + 2 * i)) := fun i => u1_o (by omega)
  have hn2 : nOof (u1 G (174 + 84 * E + (20 + 2 * k + 1)) v) E = n := by unfold nOof; rw [u1_o (by omega)]; exact hn
  have h2 : OD (u1 G (174 + 84 * E + (20 + 2 * k + 1)) v) E n := fun i j hi hj z => h i j hi hj (by rwa [hk1, hk1] at z)
  by_cases y : q = p
  · subst y
    rw [if_pos rfl, ovV_at h2 hn2 hk ((hk1 k).trans e), u1_i]
  · rw [if_neg y]
    by_cases z : ∃ i, i < n ∧ G (174 + 84 * E + (20 + 2 * i)) = G (6 + 2 * q)
    · obtain ⟨i, hi, ei⟩ := z
      have : i ≠ k := fun z => y (hD q p hq hp (by rw [← ei, z, e]))
      rw [ovV_at h2 hn2 hi ((hk1 i).trans ei), ovV_at h hn hi ei, u1_o (by omega)]
    · rw [ovV_no hn2 (fun i hi w => z ⟨i, hi, (hk1 i).symm.trans w⟩), ovV_no hn (fun i hi w => z ⟨i, hi, w⟩)]
/-- an override more -/
theorem ov_add {G : Nat → Int32} {nP E n p : Nat} {v : Int32} (hD : ∀ p q, p < nP → q < nP → G (6 + 2 * p) = G (6 + 2 * q) → p = q) (h : OD G E n) (hn : nOof G E = n) (hn8 : n < 8) (hp : p < nP) (e : ∀ k, k < n → G (174 + 84 * E + (20 + 2 * k)) ≠ G (6 + 2 * p)) : ∀ q, q < nP → ovV (u1 (u1 (u1 G (174 + 84 * E + (20 + 2 * n)) (G (6 + 2 * p))) (174 + 84 * E + 6) (nI (n + 1))) (174 + 84 * E + (20 + 2 * n + 1)) v) E (G (6 + 2 * q)) = if q = p then v else ovV G E (G (6 + 2 * q)) := by
  intro q hq
  generalize hX : u1 (u1 (u1 G (174 + 84 * E + (20 + 2 * n)) (G (6 + 2 * p))) (174 + 84 * E + 6) (nI (n + 1))) (174 + 84 * E + (20 + 2 * n + 1)) v = X
  have hk1 : ∀ i, i < n → X (174 + 84 * E + (20 + 2 * i)) = G (174 + 84 * E + (20 + 2 * i)) := fun i hi => by rw [← hX, u1_o (by omega), u1_o (by omega), u1_o (by omega)]
  have hk2 : ∀ i, i < n → X (174 + 84 * E + (20 + 2 * i + 1)) = G (174 + 84 * E + (20 + 2 * i + 1)) := fun i hi => by rw [← hX, u1_o (by omega), u1_o (by omega), u1_o (by omega)]
  have hkn : X (174 + 84 * E + (20 + 2 * n)) = G (6 + 2 * p) := by rw [← hX, u1_o (by omega), u1_o (by omega), u1_i]
  have hvn : X (174 + 84 * E + (20 + 2 * n + 1)) = v := by rw [← hX, u1_i]
  have hn2 : nOof X E = n + 1 := by unfold nOof; rw [← hX, u1_o (by omega), u1_i, nI_toInt (by omega), Int.toNat_natCast]
  have h2 : OD X E (n + 1) := fun i j hi hj z => by
    rcases Nat.lt_or_ge i n with a | a <;> rcases Nat.lt_or_ge j n with b | b
    · exact h i j a b (by rwa [hk1 i a, hk1 j b] at z)
    · rw [show j = n by omega, hk1 i a, hkn] at z; exact absurd z (e i a)
    · rw [show i = n by omega, hk1 j b, hkn] at z; exact absurd z.symm (e j b)
    · omega
  by_cases y : q = p
  · subst y
    rw [if_pos rfl, ovV_at h2 hn2 (show n < n + 1 by omega) hkn, hvn]
  · rw [if_neg y]
    by_cases z : ∃ i, i < n ∧ G (174 + 84 * E + (20 + 2 * i)) = G (6 + 2 * q)
    · obtain ⟨i, hi, ei⟩ := z
      rw [ovV_at h2 hn2 (show i < n + 1 by omega) ((hk1 i hi).trans ei), ovV_at h hn hi ei, hk2 i hi]
    · rw [ovV_no hn2 (fun i hi w => ?_), ovV_no hn (fun i hi w => z ⟨i, hi, w⟩)]
      rcases Nat.lt_or_ge i n with a | a
      · exact z ⟨i, a, (hk1 i a).symm.trans w⟩
      · rw [show i = n by omega, hkn] at w; exact y (hD q p hq hp w.symm)
/-- an override fewer -/
theorem ov_del {G : Nat → Int32} {nP E n k p : Nat} (hD : ∀ p q, p < nP → q < nP → G (6 + 2 * p) = G (6 + 2 * q) → p = q) (h : OD G E n) (hn : nOof G E = n) (hn8 : n ≤ 8) (hk : k < n) (hp : p < nP) (e : G (174 + 84 * E + (20 + 2 * k)) = G (6 + 2 * p)) : ∀ q, q < nP → ovV (g_loses G E k) E (G (6 + 2 * q)) = if q = p then -1 else ovV G E (G (6 + 2 * q)) := by
  intro q hq
  have en : (G (174 + 84 * E + 6)).toInt.toNat = n := hn
  unfold g_loses
  rw [en]
  generalize hX : u1 (shf G (174 + 84 * E + (20 + 2 * k)) (174 + 84 * E + (20 + 2 * (n - 1))) 2) (174 + 84 * E + 6) (nI (n - 1)) = X
  have hlo : ∀ i, i < k → X (174 + 84 * E + (20 + 2 * i)) = G (174 + 84 * E + (20 + 2 * i)) ∧ X (174 + 84 * E + (20 + 2 * i + 1)) = G (174 + 84 * E + (20 + 2 * i + 1)) := fun i hi => by
    rw [← hX, u1_o (by omega), u1_o (by omega)]; unfold shf
    rw [if_neg (by omega), if_neg (by omega)]; exact ⟨rfl, rfl⟩
  have hhi : ∀ i, k ≤ i → i < n - 1 → X (174 + 84 * E + (20 + 2 * i)) = G (174 + 84 * E + (20 + 2 * (i + 1))) ∧ X (174 + 84 * E + (20 + 2 * i + 1)) = G (174 + 84 * E + (20 + 2 * (i + 1) + 1)) := fun i hi hi2 => by
    rw [← hX, u1_o (by omega), u1_o (by omega)]; unfold shf
    rw [if_pos (by omega), if_pos (by omega)]; exact ⟨rfl, rfl⟩
  have hn2 : nOof X E = n - 1 := by unfold nOof; rw [← hX, u1_i, nI_toInt (by omega), Int.toNat_natCast]
  have hall : ∀ i, i < n - 1 → ∃ j, j < n ∧ j ≠ k ∧ (j = if i < k then i else i + 1) ∧ X (174 + 84 * E + (20 + 2 * i)) = G (174 + 84 * E + (20 + 2 * j)) ∧ X (174 + 84 * E + (20 + 2 * i + 1)) = G (174 + 84 * E + (20 + 2 * j + 1)) := fun i hi => by
    rcases Nat.lt_or_ge i k with a | a
    · exact ⟨i, by omega, by omega, by rw [if_pos a], hlo i a⟩
    · exact ⟨i + 1, by omega, by omega, by rw [if_neg (by omega)], hhi i a hi⟩
  have h2 : OD X E (n - 1) := fun i j hi hj z => by
    obtain ⟨a, a1, a2, a3, a4, -⟩ := hall i hi
    obtain ⟨b, b1, b2, b3, b4, -⟩ := hall j hj
    have := h a b a1 b1 (by rw [← a4, ← b4]; exact z)
    rw [a3, b3] at this
    split at this <;> split at this <;> omega
  by_cases y : q = p
  · subst y
    rw [if_pos rfl, ovV_no hn2 (fun i hi w => ?_)]
    obtain ⟨a, a1, a2, -, a4, -⟩ := hall i hi
    exact a2 (h a k a1 hk (by rw [← a4, w, e]))
  · rw [if_neg y]
    by_cases z : ∃ i, i < n ∧ G (174 + 84 * E + (20 + 2 * i)) = G (6 + 2 * q)
    · obtain ⟨i, hi, ei⟩ := z
      have hik : i ≠ k := fun z => y (hD q p hq hp (by rw [← ei, z, e]))
      rw [ovV_at h hn hi ei]
      rcases Nat.lt_or_ge i k with a | a
      · rw [ovV_at h2 hn2 (show i < n - 1 by omega) ((hlo i a).1.trans ei), (hlo i a).2]
      · obtain ⟨m, rfl⟩ : ∃ m, i = m + 1 := ⟨i - 1, by omega⟩
        rw [ovV_at h2 hn2 (show m < n - 1 by omega) ((hhi m (by omega) (by omega)).1.trans ei), (hhi m (by omega) (by omega)).2]
    · rw [ovV_no hn2 (fun i hi w => ?_), ovV_no hn (fun i hi w => z ⟨i, hi, w⟩)]
      obtain ⟨a, a1, a2, -, a4, -⟩ := hall i hi
      exact z ⟨a, a1, a4.symm.trans w⟩
