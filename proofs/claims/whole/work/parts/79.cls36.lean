/-! THE CLASS: which part brings a person in -/
/-! which part brings a person in -/
/-- what decides: an answer, or a rule -/
def wsel (G : Nat → Int32) (tb : Nat → Bool) (key : Int32) (p : Nat) (A : Nat → Int32) (F : Nat) : (Int32 × Int32 × Int32) ⊕ Nat :=
  match oB G F (G (174 + 84 * F + 6)).toInt.toNat key with
  | some k => .inl (G (174 + 84 * F + (20 + 2 * k + 1)), 1, -1)
  | none => if (G (174 + 84 * F + 1)).toInt = 1 then .inl (0, 2, -1)
    else match fst1 (fun n => decide (A (ndF G F n) ≠ G (174 + 84 * F + (14 + 2 * n + 1)))) (G (174 + 84 * F + 5)).toInt.toNat with
      | some n => .inl (0, 3, nI (ndF G F n))
      | none => if 0 ≤ (G (174 + 84 * F + 7)).toInt ∧ ¬ ((G (174 + 84 * F + 8)).toInt ≤ (bkt (G (174 + 84 * F + 7) + nI 100) key).toInt ∧ (bkt (G (174 + 84 * F + 7) + nI 100) key).toInt ≤ (G (174 + 84 * F + 9)).toInt) then .inl (0, 4, G (174 + 84 * F + 7))
        else if 0 < (G (174 + 84 * F + (36 + p))).toInt then .inl (G (174 + 84 * F + (36 + p)), 5, -1)
        else match fst1 (fun r => tb (G (174 + 84 * F + 60 + 4 * r + 0)).toInt.toNat) (G (174 + 84 * F + 4)).toInt.toNat with
          | some r => .inr r
          | none => .inl (G (174 + 84 * F + 3), 7, -1)
def rlA (G : Nat → Int32) (key : Int32) (F r : Nat) : Int32 := if 1000 ≤ (G (174 + 84 * F + 60 + 4 * r + 1)).toInt then G (174 + 84 * F + 60 + 4 * r + 1) - nI 1000 else shV (bkt (nI (F + 1)) key).toInt (G (174 + 84 * F + 60 + 4 * r + 1)) (G (174 + 84 * F + 60 + 4 * r + 2)) (G (174 + 84 * F + 60 + 4 * r + 3))
theorem wo1_sel {G : Nat → Int32} {tb : Nat → Bool} {key : Int32} {p : Nat} {A : Nat → Int32} {F : Nat} : wo1 G tb key p A F = (match wsel G tb key p A F with | .inl t => t | .inr r => (rlA G key F r, 6, nI r)) := by
  unfold wo1 wsel
  cases oB G F (G (174 + 84 * F + 6)).toInt.toNat key with
  | some k => rfl
  | none =>
    dsimp only
    by_cases hk : (G (174 + 84 * F + 1)).toInt = 1
    · rw [if_pos hk, if_pos hk]
    · rw [if_neg hk, if_neg hk]
      cases fst1 (fun n => decide (A (ndF G F n) ≠ G (174 + 84 * F + (14 + 2 * n + 1)))) (G (174 + 84 * F + 5)).toInt.toNat with
      | some n => rfl
      | none =>
        dsimp only
        unfold wo2
        by_cases hl : 0 ≤ (G (174 + 84 * F + 7)).toInt ∧ ¬ ((G (174 + 84 * F + 8)).toInt ≤ (bkt (G (174 + 84 * F + 7) + nI 100) key).toInt ∧ (bkt (G (174 + 84 * F + 7) + nI 100) key).toInt ≤ (G (174 + 84 * F + 9)).toInt)
        · rw [if_pos hl, if_pos hl]
        · rw [if_neg hl, if_neg hl]
          by_cases hp : 0 < (G (174 + 84 * F + (36 + p))).toInt
          · rw [if_pos hp, if_pos hp]
          · rw [if_neg hp, if_neg hp]
            cases fst1 (fun r => tb (G (174 + 84 * F + 60 + 4 * r + 0)).toInt.toNat) (G (174 + 84 * F + 4)).toInt.toNat with
            | some r => rfl
            | none => rfl
theorem wsel_l {G : Nat → Int32} {tb : Nat → Bool} {key : Int32} {p : Nat} {A : Nat → Int32} {F : Nat} {t : Int32 × Int32 × Int32} (h : wsel G tb key p A F = .inl t) : t.2.1.toInt ≠ 6 := by
  unfold wsel at h
  repeat' split at h
  all_goals first | (cases h; done) | (cases h; first | (show (1 : Int32).toInt ≠ 6; decide) | (show (2 : Int32).toInt ≠ 6; decide) | (show (3 : Int32).toInt ≠ 6; decide) | (show (4 : Int32).toInt ≠ 6; decide) | (show (5 : Int32).toInt ≠ 6; decide) | (show (7 : Int32).toInt ≠ 6; decide))
theorem oB_u {G : Nat → Int32} {F n r k E : Nat} {v key : Int32} (hn : n ≤ 8) (hk : 1 ≤ k) : oB (u1 G (174 + 84 * F + 60 + 4 * r + k) v) F n key = oB G F n key := oB_c (fun j hj => u1_o (by omega))
theorem wsel_u {G : Nat → Int32} {nF nt : Nat} {tb : Nat → Bool} {key v : Int32} {p : Nat} {A : Nat → Int32} {F E r k : Nat} (hw : WFF G nF nt E) (hp : p < 24) (hr : r < 6) (hk : 1 ≤ k ∧ k ≤ 3) : wsel (u1 G (174 + 84 * F + 60 + 4 * r + k) v) tb key p A E = wsel G tb key p A E := by
  obtain ⟨tp, kl, sk, fb, nR, nN, nO, fr, to, -, -, -, -, ⟨-, b4, c4, -⟩, ⟨-, b5, c5, -⟩, ⟨-, b6, c6, -⟩, -⟩ := wfn hw
  have g : ∀ w, w < 60 → u1 G (174 + 84 * F + 60 + 4 * r + k) v (174 + 84 * E + w) = G (174 + 84 * E + w) := fun w hw => u1_o (by omega)
  have e1 : oB (u1 G (174 + 84 * F + 60 + 4 * r + k) v) E (u1 G (174 + 84 * F + 60 + 4 * r + k) v (174 + 84 * E + 6)).toInt.toNat key = oB G E (G (174 + 84 * E + 6)).toInt.toNat key := by
    rw [g 6 (by decide), b6, Int.toNat_natCast]
    exact oB_c (fun j hj => g (20 + 2 * j) (by omega))
  have e2 : fst1 (fun n => decide (A (ndF (u1 G (174 + 84 * F + 60 + 4 * r + k) v) E n) ≠ u1 G (174 + 84 * F + 60 + 4 * r + k) v (174 + 84 * E + (14 + 2 * n + 1)))) (u1 G (174 + 84 * F + 60 + 4 * r + k) v (174 + 84 * E + 5)).toInt.toNat = fst1 (fun n => decide (A (ndF G E n) ≠ G (174 + 84 * E + (14 + 2 * n + 1)))) (G (174 + 84 * E + 5)).toInt.toNat := by
    rw [g 5 (by decide), b5, Int.toNat_natCast]
    refine fst1_congr (fun j hj => ?_)
    unfold ndF
    rw [g (14 + 2 * j) (by omega), g (14 + 2 * j + 1) (by omega)]
  have e3 : fst1 (fun r2 => tb (u1 G (174 + 84 * F + 60 + 4 * r + k) v (174 + 84 * E + 60 + 4 * r2 + 0)).toInt.toNat) (u1 G (174 + 84 * F + 60 + 4 * r + k) v (174 + 84 * E + 4)).toInt.toNat = fst1 (fun r2 => tb (G (174 + 84 * E + 60 + 4 * r2 + 0)).toInt.toNat) (G (174 + 84 * E + 4)).toInt.toNat := by
    rw [g 4 (by decide), b4, Int.toNat_natCast]
    refine fst1_congr (fun j hj => ?_)
    rw [u1_o (by omega)]
  unfold wsel
  rw [e1, e2, e3, g 1 (by decide), g 7 (by decide), g 8 (by decide), g 9 (by decide), g 3 (by decide), g (36 + p) (by omega)]
  cases h1 : oB G E (G (174 + 84 * E + 6)).toInt.toNat key with
  | some q =>
    obtain ⟨hq, -, -⟩ := fst1_spec (show fst1 _ _ = some q from h1)
    rw [b6, Int.toNat_natCast] at hq
    dsimp only
    rw [g (20 + 2 * q + 1) (by omega)]
  | none =>
    dsimp only
    cases h2 : fst1 (fun n => decide (A (ndF G E n) ≠ G (174 + 84 * E + (14 + 2 * n + 1)))) (G (174 + 84 * E + 5)).toInt.toNat with
    | none => rfl
    | some q =>
      obtain ⟨hq, -, -⟩ := fst1_spec h2
      rw [b5, Int.toNat_natCast] at hq
      have : ndF (u1 G (174 + 84 * F + 60 + 4 * r + k) v) E q = ndF G E q := by unfold ndF; rw [g (14 + 2 * q) (by omega)]
      dsimp only
      rw [this]
theorem wsel_A {G : Nat → Int32} {tb : Nat → Bool} {key : Int32} {p F : Nat} {A B : Nat → Int32} (h : ∀ n, n < (G (174 + 84 * F + 5)).toInt.toNat → A (ndF G F n) = B (ndF G F n)) : wsel G tb key p A F = wsel G tb key p B F := by
  unfold wsel
  rw [fst1_congr (p := fun n => decide (A (ndF G F n) ≠ G (174 + 84 * F + (14 + 2 * n + 1)))) (q := fun n => decide (B (ndF G F n) ≠ G (174 + 84 * F + (14 + 2 * n + 1)))) (fun j hj => by rw [h j hj])]
theorem rlA_u {G : Nat → Int32} {key v : Int32} {F E r k s : Nat} (h : ¬ (E = F ∧ s = r)) (hs : s < 6) (hr : r < 6) (hk : 1 ≤ k ∧ k ≤ 3) : rlA (u1 G (174 + 84 * F + 60 + 4 * r + k) v) key E s = rlA G key E s := by
  unfold rlA
  rw [u1_o (by omega), u1_o (by omega), u1_o (by omega)]
theorem ans_sel {G : Nat → Int32} {tb : Nat → Bool} {key : Int32} {p nF : Nat} {rk : Nat → Nat} (hr : RK G nF rk) {F : Nat} (hF : F < nF) : ans G tb key p F = (match wsel G tb key p (fun o => (ans G tb key p o).1) F with | .inl t => t | .inr r => (rlA G key F r, 6, nI r)) := by
  rw [ans_eq hr hF]; exact wo1_sel
theorem wsel_r {G : Nat → Int32} {nF nt : Nat} {tb : Nat → Bool} {key : Int32} {p : Nat} {A : Nat → Int32} {F r : Nat} (hw : WFF G nF nt F) (h : wsel G tb key p A F = .inr r) : r < 6 := by
  obtain ⟨tp, kl, sk, fb, nR, nN, nO, fr, to, -, -, -, -, ⟨-, b4, c4, -⟩, -⟩ := wfn hw
  unfold wsel at h
  repeat' split at h
  all_goals first | (cases h; done) | skip
  rename_i hf
  obtain ⟨hq, -, -⟩ := fst1_spec hf
  cases h
  rw [b4, Int.toNat_natCast] at hq; omega
/-- features of lesser rank answer alike, whatever a part of F's is -/
theorem ans_u {G : Nat → Int32} {tb : Nat → Bool} {key v : Int32} {p nP nF nt : Nat} {rk : Nat → Nat} (hW : WFA G nP nF nt) (hr : RK G nF rk) {F r k : Nat} (hp : p < 24) (h6 : r < 6) (hk : 1 ≤ k ∧ k ≤ 3) : ∀ (m E : Nat), rk E = m → E < nF → E ≠ F → (rk E < rk F) → ans (u1 G (174 + 84 * F + 60 + 4 * r + k) v) tb key p E = ans G tb key p E := by
  intro m
  induction m using Nat.strongRecOn with | ind m ih => ?_
  intro E hm hE hEF hlt
  have hr2 := RK_part (v := v) (F := F) hW hr h6 hk.2
  have hw := hW.2.2.2.2.1 E hE
  rw [ans_sel hr2 hE, ans_sel hr hE, wsel_u hw hp h6 hk]
  have e : wsel G tb key p (fun o => (ans (u1 G (174 + 84 * F + 60 + 4 * r + k) v) tb key p o).1) E = wsel G tb key p (fun o => (ans G tb key p o).1) E := wsel_A (fun n hn => by
    obtain ⟨h1, h2⟩ := (hr E hE).2 n hn
    show (ans _ tb key p (ndF G E n)).1 = (ans G tb key p (ndF G E n)).1
    rw [ih (rk (ndF G E n)) (by omega) (ndF G E n) rfl h1 (fun z => by rw [z] at h2; omega) (by omega)])
  rw [e]
  cases h : wsel G tb key p (fun o => (ans G tb key p o).1) E with
  | inl t => rfl
  | inr s => dsimp only; rw [rlA_u (fun z => hEF z.1) (wsel_r hw h) h6 hk]
theorem ans_F {G : Nat → Int32} {tb : Nat → Bool} {key v : Int32} {p nP nF nt : Nat} {rk : Nat → Nat} (hW : WFA G nP nF nt) (hr : RK G nF rk) {F r k : Nat} (hF : F < nF) (hp : p < 24) (h6 : r < 6) (hk : 1 ≤ k ∧ k ≤ 3) : ans (u1 G (174 + 84 * F + 60 + 4 * r + k) v) tb key p F = (match wsel G tb key p (fun o => (ans G tb key p o).1) F with | .inl t => t | .inr s => (rlA (u1 G (174 + 84 * F + 60 + 4 * r + k) v) key F s, 6, nI s)) := by
  have hr2 := RK_part (v := v) (F := F) hW hr h6 hk.2
  have hw := hW.2.2.2.2.1 F hF
  rw [ans_sel hr2 hF, wsel_u hw hp h6 hk]
  have e : wsel G tb key p (fun o => (ans (u1 G (174 + 84 * F + 60 + 4 * r + k) v) tb key p o).1) F = wsel G tb key p (fun o => (ans G tb key p o).1) F := wsel_A (fun n hn => by
    obtain ⟨h1, h2⟩ := (hr F hF).2 n hn
    show (ans _ tb key p (ndF G F n)).1 = (ans G tb key p (ndF G F n)).1
    rw [ans_u hW hr hp h6 hk (rk (ndF G F n)) (ndF G F n) rfl h1 (fun z => by rw [z] at h2; omega) h2])
  rw [e]
theorem shV_k {b : Int} {q1 q2 q3 : Int32} {k : Nat} (h1 : 0 ≤ q1.toInt ∧ q1.toInt ≤ 333) (h2 : 0 ≤ q2.toInt ∧ q2.toInt ≤ 333) (h3 : 0 ≤ q3.toInt ∧ q3.toInt ≤ 333) (hk : 1 ≤ k ∧ k ≤ 3) : (shV b q1 q2 q3).toInt = (k : Int) ↔ ((333 * (k - 1) : Nat) : Int) ≤ b ∧ b < ((333 * (k - 1) : Nat) : Int) + (if k = 1 then q1 else if k = 2 then q2 else q3).toInt := by
  have v1 : (1 : Int32).toInt = 1 := by decide
  have v2 : (2 : Int32).toInt = 2 := by decide
  have v3 : (3 : Int32).toInt = 3 := by decide
  have v0 : (0 : Int32).toInt = 0 := by decide
  unfold shV
  rcases (show k = 1 ∨ k = 2 ∨ k = 3 by omega) with e | e | e
  · subst e
    rw [show (if 1 = 1 then q1 else if 1 = 2 then q2 else q3) = q1 from rfl]
    repeat' split
    all_goals omega
  · subst e
    rw [show (if 2 = 1 then q1 else if 2 = 2 then q2 else q3) = q2 from rfl]
    repeat' split
    all_goals omega
  · subst e
    rw [show (if 3 = 1 then q1 else if 3 = 2 then q2 else q3) = q3 from rfl]
    repeat' split
    all_goals omega
/-- the part from which on a person gets the variant; 334: none -/
def lpN (tr : Int32 → Nat → Nat → Bool) (G : Nat → Int32) (F r k p : Nat) : Nat := if (AN tr (u1 G (174 + 84 * F + 60 + 4 * r + k) (nI 0)) p F).1.toInt = (k : Int) then 0 else if (AN tr (u1 G (174 + 84 * F + 60 + 4 * r + k) (nI 333)) p F).1.toInt = (k : Int) then (bkt (nI (F + 1)) (G (6 + 2 * p))).toInt.toNat - 333 * (k - 1) + 1 else 334
theorem AN_u {tr : Int32 → Nat → Nat → Bool} {G : Nat → Int32} {F r k p E : Nat} {v : Int32} (hp : p < 24) : AN tr (u1 G (174 + 84 * F + 60 + 4 * r + k) v) p E = ans (u1 G (174 + 84 * F + 60 + 4 * r + k) v) (fun t => tr (G (6 + 2 * p)) (G (6 + 2 * p + 1)).toInt.toNat t) (G (6 + 2 * p)) p E := by
  unfold AN
  rw [u1_o (by omega), u1_o (by omega)]
theorem lpN_ok {tr : Int32 → Nat → Nat → Bool} {G : Nat → Int32} {nP nF nt : Nat} {rk : Nat → Nat} (hW : WFA G nP nF nt) (hr : RK G nF rk) {F r k p : Nat} (hF : F < nF) (hrn : (r : Int) < (G (174 + 84 * F + 4)).toInt) (hs : ¬ 1000 ≤ (G (174 + 84 * F + 60 + 4 * r + 1)).toInt) (hk : 1 ≤ k ∧ k ≤ 3) (hp : p < nP) : (∀ v, v ≤ 333 → (lpN tr G F r k p ≤ v ↔ enP tr (u1 G (174 + 84 * F + 60 + 4 * r + k) (nI 0)) F r k v p = true)) ∧ (¬ (AN tr (u1 G (174 + 84 * F + 60 + 4 * r + k) (nI 0)) p F).1.toInt = (k : Int) → (AN tr (u1 G (174 + 84 * F + 60 + 4 * r + k) (nI 333)) p F).1.toInt = (k : Int) → 333 * (k - 1) ≤ (bkt (nI (F + 1)) (G (6 + 2 * p))).toInt.toNat ∧ (bkt (nI (F + 1)) (G (6 + 2 * p))).toInt.toNat < 333 * (k - 1) + 333) := by
  have hP24 := hW.2.1
  have hw := hW.2.2.2.2.1 F hF
  obtain ⟨tp, kl, sk, fb, nR, nN, nO, fr, to, -, -, -, -, ⟨-, b4, c4, -⟩, -⟩ := wfn hw
  have h6 : r < 6 := by omega
  have hwr := hw.2.2.2.2.2.2.2.2.2.2.2.1 r hrn
  have hkey : u1 G (174 + 84 * F + 60 + 4 * r + k) (nI 0) (6 + 2 * p) = G (6 + 2 * p) := u1_o (by omega)
  have hb := bkt_rng (nI (F + 1)) (G (6 + 2 * p))
  have hi0 : (nI 0).toInt = 0 := rfl
  have hi3 : (nI 333).toInt = 333 := by decide
  unfold lpN enP
  rw [hkey]
  simp only [decide_eq_true_eq]
  rw [AN_u (v := nI 0) (by omega), AN_u (v := nI 333) (by omega), ans_F (v := nI 0) hW hr hF (by omega) h6 hk, ans_F (v := nI 333) hW hr hF (by omega) h6 hk]
  generalize hb2 : (bkt (nI (F + 1)) (G (6 + 2 * p))).toInt = b at *
  cases h : wsel G (fun t => tr (G (6 + 2 * p)) (G (6 + 2 * p + 1)).toInt.toNat t) (G (6 + 2 * p)) p (fun o => (ans G (fun t => tr (G (6 + 2 * p)) (G (6 + 2 * p + 1)).toInt.toNat t) (G (6 + 2 * p)) p o).1) F with
  | inl t =>
    dsimp only
    have h6' := wsel_l h
    by_cases hq : t.1.toInt = (k : Int)
    · rw [if_pos hq]
      exact ⟨fun v hv => ⟨fun _ => Or.inl hq, fun _ => Nat.zero_le _⟩, fun z => absurd hq z⟩
    · rw [if_neg hq, if_neg hq]
      exact ⟨fun v hv => ⟨fun z => by omega, fun z => by
        rcases z with z | z
        · exact absurd z hq
        · exact absurd z.1 h6'⟩, fun _ z => absurd z hq⟩
  | inr s =>
    have hs6 := wsel_r hw h
    dsimp only
    have h66 : (6 : Int32).toInt = 6 := by decide
    have hsn : (nI s).toInt = (s : Int) := nI_toInt (by omega)
    rw [hsn]
    by_cases hsr : s = r
    · subst hsr
      have key : ∀ v : Int32, 0 ≤ v.toInt ∧ v.toInt ≤ 333 → ((rlA (u1 G (174 + 84 * F + 60 + 4 * s + k) v) (G (6 + 2 * p)) F s).toInt = (k : Int) ↔ ((333 * (k - 1) : Nat) : Int) ≤ b ∧ b < ((333 * (k - 1) : Nat) : Int) + v.toInt) := fun v hv => by
        have q1 : ∀ j, 1 ≤ j → j ≤ 3 → 0 ≤ (u1 G (174 + 84 * F + 60 + 4 * s + k) v (174 + 84 * F + 60 + 4 * s + j)).toInt ∧ (u1 G (174 + 84 * F + 60 + 4 * s + k) v (174 + 84 * F + 60 + 4 * s + j)).toInt ≤ 333 := fun j j1 j2 => by
          unfold u1
          split
          · exact hv
          · rcases (show j = 1 ∨ j = 2 ∨ j = 3 by omega) with e | e | e
            · subst e; omega
            · subst e; exact hwr.2.2.1
            · subst e; exact hwr.2.2.2
        unfold rlA
        have q11 := q1 1 (by decide) (by decide)
        rw [if_neg (by omega), hb2, shV_k (q1 1 (by decide) (by decide)) (q1 2 (by decide) (by decide)) (q1 3 (by decide) (by decide)) hk]
        rcases (show k = 1 ∨ k = 2 ∨ k = 3 by omega) with e | e | e
        · subst e; rw [if_pos rfl, u1_i]
        · subst e; rw [if_neg (by decide), if_pos rfl, u1_i]
        · subst e; rw [if_neg (by decide), if_neg (by decide), u1_i]
      have k0 := key (nI 0) (by omega)
      have k3 := key (nI 333) (by omega)
      rw [hi0] at k0
      rw [hi3] at k3
      have n0 : ¬ (rlA (u1 G (174 + 84 * F + 60 + 4 * s + k) (nI 0)) (G (6 + 2 * p)) F s).toInt = (k : Int) := fun z => by have := k0.mp z; omega
      rw [if_neg n0]
      refine ⟨fun v hv => ?_, fun _ z => by have := k3.mp z; omega⟩
      by_cases z : (rlA (u1 G (174 + 84 * F + 60 + 4 * s + k) (nI 333)) (G (6 + 2 * p)) F s).toInt = (k : Int)
      · rw [if_pos z]
        have z1 := k3.mp z
        exact ⟨fun y => Or.inr ⟨h66, rfl, by omega, by omega⟩, fun y => by
          rcases y with y | y
          · exact absurd y n0
          · omega⟩
      · rw [if_neg z]
        exact ⟨fun y => by omega, fun y => by
          rcases y with y | y
          · exact absurd y n0
          · exact absurd (k3.mpr (by omega)) z⟩
    · have ea := rlA_u (G := G) (key := G (6 + 2 * p)) (v := nI 0) (fun z => hsr z.2) hs6 h6 hk (E := F) (F := F)
      have eb := rlA_u (G := G) (key := G (6 + 2 * p)) (v := nI 333) (fun z => hsr z.2) hs6 h6 hk (E := F) (F := F)
      simp only [ea, eb]
      by_cases hq : (rlA G (G (6 + 2 * p)) F s).toInt = (k : Int)
      · rw [if_pos hq]
        exact ⟨fun v hv => ⟨fun _ => Or.inl hq, fun _ => Nat.zero_le _⟩, fun z => absurd hq z⟩
      · rw [if_neg hq, if_neg hq]
        exact ⟨fun v hv => ⟨fun z => by omega, fun z => by
          rcases z with z | z
          · exact absurd z hq
          · omega⟩, fun _ z => absurd z hq⟩
