/-! THE REFERENCE: a rule spelled -/
/-! a rule spelled -/
def spNum : Nat → Nat → List Int32
  | 0, v => [nI (48 + v % 10)]
  | n + 1, v => if 9 < v then spNum n (v / 10) ++ [nI (48 + v % 10)] else [nI (48 + v % 10)]
theorem spNum_fuel : ∀ (v : Nat) (a b : Nat), v < 10 ^ (a + 1) → v < 10 ^ (b + 1) → spNum a v = spNum b v
  | v, 0, 0, _, _ => rfl
  | v, 0, b + 1, h, _ => by
    unfold spNum; rw [if_neg (by omega)]
  | v, a + 1, 0, _, h => by
    conv => lhs; unfold spNum
    rw [if_neg (by omega)]; rfl
  | v, a + 1, b + 1, h1, h2 => by
    unfold spNum
    by_cases c : 9 < v
    · rw [if_pos c, if_pos c, spNum_fuel (v / 10) a b (by rw [Nat.pow_succ] at h1; omega) (by rw [Nat.pow_succ] at h2; omega)]
    · rw [if_neg c, if_neg c]
/-- a number's letters -/
def spn (v : Nat) : List Int32 := spNum 6 v
theorem spn_s {v : Nat} (h : 9 < v) (hv : v < 1000000) : spn v = spn (v / 10) ++ [nI (48 + v % 10)] := by
  unfold spn
  rw [show spNum 6 v = spNum 5 (v / 10) ++ [nI (48 + v % 10)] from if_pos h, spNum_fuel (v / 10) 5 6 (by omega) (by omega)]
theorem spn_0 {v : Nat} (h : v ≤ 9) : spn v = [nI (48 + v % 10)] := if_neg (by omega)
def spIn (T : Nat → List Int32) (b : Bool) (t : Nat) : List Int32 := if b = true then nI 40 :: (T t ++ [nI 41]) else T t
/-- a condition's letters -/
def spT (K F C S : Nat → Int32) : Nat → Nat → List Int32
  | 0, _ => []
  | n + 1, t => if (K t).toInt = 3 then nI 33 :: spIn (spT K F C S n) (decide (7 ≤ (K (F t).toInt.toNat).toInt)) (F t).toInt.toNat
    else if (K t).toInt = 4 then [nI 42]
    else if (K t).toInt = 5 then [nI 97 + F t, S t, nI 48 + C t]
    else if (K t).toInt = 6 then nI 35 :: (spn (F t).toInt.toNat ++ nI 45 :: spn (C t).toInt.toNat)
    else if (K t).toInt = 7 then spIn (spT K F C S n) (decide ((K (F t).toInt.toNat).toInt = 8)) (F t).toInt.toNat ++ nI 38 :: spIn (spT K F C S n) (decide (7 ≤ (K (C t).toInt.toNat).toInt)) (C t).toInt.toNat
    else spT K F C S n (F t).toInt.toNat ++ nI 124 :: spIn (spT K F C S n) (decide ((K (C t).toInt.toNat).toInt = 8)) (C t).toInt.toNat
def TV2 (K F C S : Nat → Int32) (n : Nat) : Prop := ∀ j, j < n → ((K j).toInt = 6 → 0 ≤ (C j).toInt ∧ (C j).toInt ≤ 999999) ∧ ((K j).toInt = 5 → (F j).toInt ≤ 3 ∧ (0 ≤ (C j).toInt ∧ (C j).toInt ≤ 9) ∧ 60 ≤ (S j).toInt ∧ (S j).toInt ≤ 62)
theorem spT_fuel {K F C S : Nat → Int32} {nt : Nat} (hV : TV K F C nt) : ∀ t, t < nt → ∀ a b, t < a → t < b → spT K F C S a t = spT K F C S b t := by
  intro t
  induction t using Nat.strongRecOn with | ind t ih => ?_
  intro ht a b ha hb
  obtain ⟨a, rfl⟩ : ∃ a', a = a' + 1 := ⟨a - 1, by omega⟩
  obtain ⟨b, rfl⟩ : ∃ b', b = b' + 1 := ⟨b - 1, by omega⟩
  obtain ⟨⟨h1, h2⟩, ⟨h3, h4⟩, h5, h6⟩ := hV t ht
  unfold spT
  by_cases c3 : (K t).toInt = 3
  · have := h5 (Or.inl c3)
    rw [if_pos c3, if_pos c3]; unfold spIn; rw [ih _ (by omega) (by omega) a b (by omega) (by omega)]
  · rw [if_neg c3, if_neg c3]
    by_cases c4 : (K t).toInt = 4
    · rw [if_pos c4, if_pos c4]
    · rw [if_neg c4, if_neg c4]
      by_cases c5 : (K t).toInt = 5
      · rw [if_pos c5, if_pos c5]
      · rw [if_neg c5, if_neg c5]
        by_cases c6 : (K t).toInt = 6
        · rw [if_pos c6, if_pos c6]
        · rw [if_neg c6, if_neg c6]
          have := h5 (Or.inr (by omega))
          have := h6 (by omega)
          unfold spIn
          rw [ih (F t).toInt.toNat (by omega) (by omega) a b (by omega) (by omega), ih (C t).toInt.toNat (by omega) (by omega) a b (by omega) (by omega)]
def spt (K F C S : Nat → Int32) (t : Nat) : List Int32 := spT K F C S (t + 1) t
theorem spt_eq {K F C S : Nat → Int32} {nt t : Nat} (hV : TV K F C nt) (ht : t < nt) : spt K F C S t = (if (K t).toInt = 3 then nI 33 :: spIn (spt K F C S) (decide (7 ≤ (K (F t).toInt.toNat).toInt)) (F t).toInt.toNat
    else if (K t).toInt = 4 then [nI 42]
    else if (K t).toInt = 5 then [nI 97 + F t, S t, nI 48 + C t]
    else if (K t).toInt = 6 then nI 35 :: (spn (F t).toInt.toNat ++ nI 45 :: spn (C t).toInt.toNat)
    else if (K t).toInt = 7 then spIn (spt K F C S) (decide ((K (F t).toInt.toNat).toInt = 8)) (F t).toInt.toNat ++ nI 38 :: spIn (spt K F C S) (decide (7 ≤ (K (C t).toInt.toNat).toInt)) (C t).toInt.toNat
    else spt K F C S (F t).toInt.toNat ++ nI 124 :: spIn (spt K F C S) (decide ((K (C t).toInt.toNat).toInt = 8)) (C t).toInt.toNat) := by
  obtain ⟨⟨h1, h2⟩, ⟨h3, h4⟩, h5, h6⟩ := hV t ht
  have e : ∀ j, j < t → spT K F C S t j = spt K F C S j := fun j hj => spT_fuel hV j (by omega) _ _ hj (by omega)
  show spT K F C S (t + 1) t = _
  unfold spT
  by_cases c3 : (K t).toInt = 3
  · have := h5 (Or.inl c3)
    rw [if_pos c3, if_pos c3]; unfold spIn; rw [e _ (by omega)]
  · rw [if_neg c3, if_neg c3]
    by_cases c4 : (K t).toInt = 4
    · rw [if_pos c4, if_pos c4]
    · rw [if_neg c4, if_neg c4]
      by_cases c5 : (K t).toInt = 5
      · rw [if_pos c5, if_pos c5]
      · rw [if_neg c5, if_neg c5]
        by_cases c6 : (K t).toInt = 6
        · rw [if_pos c6, if_pos c6]
        · rw [if_neg c6, if_neg c6]
          have := h5 (Or.inr (by omega))
          have := h6 (by omega)
          unfold spIn
          rw [e _ (by omega), e _ (by omega)]
/-- the letter at a place -/
def fnd (i : Int32) (l : List Int32) : Int32 := if 0 ≤ i.toInt ∧ i.toInt < (l.length : Int) then l.getD i.toInt.toNat 0 else -1
theorem getDI_app1 {l m : List Int32} {i : Nat} (h : i < l.length) : (l ++ m).getD i 0 = l.getD i 0 := by rw [List.getD_eq_getElem?_getD, List.getD_eq_getElem?_getD, List.getElem?_append_left h]
theorem getDI_app2 {l : List Int32} {x : Int32} : (l ++ [x]).getD l.length 0 = x := by rw [List.getD_eq_getElem?_getD, List.getElem?_append_right (Nat.le_refl _), Nat.sub_self]; rfl
theorem fnd_eq {i c : Int32} {l : List Int32} (h : i.toInt = (l.length : Int)) : fnd i (l ++ [c]) = c := by
  unfold fnd
  rw [List.length_append, List.length_singleton, if_pos (by omega), h, Int.toNat_natCast, getDI_app2]
theorem fnd_ne {i c : Int32} {l : List Int32} (h : i.toInt ≠ (l.length : Int)) : fnd i (l ++ [c]) = fnd i l := by
  unfold fnd
  rw [List.length_append, List.length_singleton]
  by_cases q : 0 ≤ i.toInt ∧ i.toInt < (l.length : Int)
  · rw [if_pos (by omega), if_pos q, getDI_app1 (by omega)]
  · rw [if_neg (by omega), if_neg q]
/-- letters told so far -/
def TL (I : Nat → Nat → Int32) (i : Int32) (l : List Int32) (J : Nat → Nat → Int32) : Prop := FrS I J ∧ J 761 24 = nI l.length ∧ J 761 25 = i ∧ J 761 26 = fnd i l ∧ l.length < 100000
def o_spelled (K F C S : Nat → Int32) (G : Nat → Int32) (nF : Nat) (f s i : Int32) : Out := if (0 ≤ f.toInt ∧ f.toInt < (nF : Int)) then (if 0 ≤ s.toInt ∧ s.toInt < (G (174 + 84 * f.toInt.toNat + 4)).toInt then
  .inl (fnd i (spt K F C S (G (174 + 84 * f.toInt.toNat + 60 + 4 * s.toInt.toNat + 0)).toInt.toNat ++ (if 1000 ≤ (G (174 + 84 * f.toInt.toNat + 60 + 4 * s.toInt.toNat + 1)).toInt then nI 58 :: spn ((G (174 + 84 * f.toInt.toNat + 60 + 4 * s.toInt.toNat + 1)).toInt.toNat - 1000)
    else nI 37 :: (spn (G (174 + 84 * f.toInt.toNat + 60 + 4 * s.toInt.toNat + 1)).toInt.toNat ++ nI 44 :: (spn (G (174 + 84 * f.toInt.toNat + 60 + 4 * s.toInt.toNat + 2)).toInt.toNat ++ nI 44 :: spn (G (174 + 84 * f.toInt.toNat + 60 + 4 * s.toInt.toNat + 3)).toInt.toNat))))) else .inr 0) else .inr 0
theorem spn_len : ∀ {n v : Nat}, (spNum n v).length ≤ n + 1
  | 0, v => by simp [spNum]
  | n + 1, v => by
    unfold spNum
    split
    · rw [List.length_append]; have := spn_len (n := n) (v := v / 10); simp; omega
    · simp
theorem c_M_tells {d : Nat} {I : Nat → Nat → Int32} {R : Nat → Nat → Option Nat} {L : Nat → Nat → Int64} {sh : Nat → Nat × Nat} {N : Nat} (hS : ShOK sh) (hR : RfOK R) {i : Int32} {l : List Int32} {J : Nat → Nat → Int32} (hJ : TL I i l J) {c : Int32} (hlen : l.length + 1 < 100000) : Mt mi_M_tells d 0 0 [.ref 761, .int c] (J, R, L, sh, N) (fun r h2 => r = none ∧ ∃ K, h2 = (K, R, L, sh, N) ∧ TL I i (l ++ [c]) K) := by
  obtain ⟨hfr, h24, h25, h26, hl⟩ := id hJ
  refine Mt.of pn_M (Nat.le_of_ble_eq_true rfl) ?_
  show Run mi_M_tells d 0 0 0 [(0, .ref 761), (1, .int c)] [] (J, R, L, sh, N) _
  refine r_aload_n (x := some 761) (pc2 := 1) d_M_tells_0 rfl rfl ?_
  refine r_aload_n (x := some 761) (pc2 := 2) d_M_tells_1 rfl rfl ?_
  refine q_getI (x := nI l.length) (pc2 := 5) d_M_tells_2 rfl k_M_263 (by decide) (sh_761 hS) h24 ?_
  refine r_aload_n (x := some 761) (pc2 := 6) d_M_tells_5 rfl rfl ?_
  refine q_getI (x := i) (pc2 := 9) d_M_tells_6 rfl k_M_266 (by decide) (sh_761 hS) h25 ?_
  refine q_icmp_ne (tgt := 16) (A := ((l.length : Nat) : Int)) (B := i.toInt) (pc2 := 12) d_M_tells_9 rfl rfl (nI_toInt (by omega)) (rfl) (fun c1 => ?_) (fun c1 => ?_)
  · refine r_aload_n (x := some 761) (pc2 := 17) d_M_tells_16 rfl rfl ?_
    refine q_getI (x := fnd i l) (pc2 := 20) d_M_tells_17 rfl k_M_269 (by decide) (sh_761 hS) h26 ?_
    refine q_putI (pc2 := 23) d_M_tells_20 rfl k_M_269 (Or.inl rfl) (sh_761 hS) (Or.inl rfl) (fun I2 hI2 => ?_)
    refine r_aload_n (x := some 761) (pc2 := 24) d_M_tells_23 rfl rfl ?_
    refine r_dup (pc2 := 25) d_M_tells_24 rfl rfl ?_
    refine q_getI (x := nI l.length) (pc2 := 28) d_M_tells_25 rfl k_M_263 (by decide) (sh_761 hS) ((rd_nk hI2 (by decide)).trans (h24)) ?_
    refine r_iconst (v := nI 1) (pc2 := 29) d_M_tells_28 rfl (by decide) ?_
    refine q_iaddN (pc2 := 30) d_M_tells_29 rfl ?_
    refine q_putI (pc2 := 33) d_M_tells_30 rfl k_M_263 (Or.inl rfl) (sh_761 hS) (Or.inl rfl) (fun I3 hI3 => ?_)
    refine Run.ret none d_M_tells_33 rfl ?_
    refine ⟨rfl, _, rfl, ((hfr.put hI2 (by unfold scr; omega)).put hI3 (by unfold scr; omega)), ?_, ?_, ?_, by rw [List.length_append, List.length_singleton]; omega⟩
    · rw [rd_eq hI3, List.length_append, List.length_singleton]
    · rw [rd_nk hI3 (by decide), rd_nk hI2 (by decide)]; exact h25
    · rw [rd_nk hI3 (by decide), rd_eq hI2, fnd_ne (by omega)]
  · refine r_iload_n (pc2 := 13) d_M_tells_12 rfl rfl ?_
    refine r_goto (tgt := 20) d_M_tells_13 rfl ?_
    refine q_putI (pc2 := 23) d_M_tells_20 rfl k_M_269 (Or.inl rfl) (sh_761 hS) (Or.inl rfl) (fun I4 hI4 => ?_)
    refine r_aload_n (x := some 761) (pc2 := 24) d_M_tells_23 rfl rfl ?_
    refine r_dup (pc2 := 25) d_M_tells_24 rfl rfl ?_
    refine q_getI (x := nI l.length) (pc2 := 28) d_M_tells_25 rfl k_M_263 (by decide) (sh_761 hS) ((rd_nk hI4 (by decide)).trans (h24)) ?_
    refine r_iconst (v := nI 1) (pc2 := 29) d_M_tells_28 rfl (by decide) ?_
    refine q_iaddN (pc2 := 30) d_M_tells_29 rfl ?_
    refine q_putI (pc2 := 33) d_M_tells_30 rfl k_M_263 (Or.inl rfl) (sh_761 hS) (Or.inl rfl) (fun I5 hI5 => ?_)
    refine Run.ret none d_M_tells_33 rfl ?_
    refine ⟨rfl, _, rfl, ((hfr.put hI4 (by unfold scr; omega)).put hI5 (by unfold scr; omega)), ?_, ?_, ?_, by rw [List.length_append, List.length_singleton]; omega⟩
    · rw [rd_eq hI5, List.length_append, List.length_singleton]
    · rw [rd_nk hI5 (by decide), rd_nk hI4 (by decide)]; exact h25
    · rw [rd_nk hI5 (by decide), rd_eq hI4, fnd_eq (by omega)]
theorem c_M_tellsNumber {I : Nat → Nat → Int32} {R : Nat → Nat → Option Nat} {L : Nat → Nat → Int64} {sh : Nat → Nat × Nat} {N : Nat} (hS : ShOK sh) (hR : RfOK R) {i : Int32} : ∀ (n v : Nat), v < 10 ^ n → n ≤ 6 → ∀ (l : List Int32) (J : Nat → Nat → Int32), TL I i l J → l.length + 10 < 100000 → ∀ d, n + 2 ≤ d → Mt mi_M_tellsNumber d 0 0 [.ref 761, .int (nI v)] (J, R, L, sh, N) (fun r h2 => r = none ∧ ∃ K, h2 = (K, R, L, sh, N) ∧ TL I i (l ++ spn v) K) := by
  intro n
  induction n using Nat.strongRecOn with | ind n ih => ?_
  intro v hv hn6 l J hJ hlen d hd
  have hv6 : v < 10 ^ 6 := Nat.lt_of_lt_of_le hv (Nat.pow_le_pow_right (by decide) hn6)
  have hln : (spn v).length ≤ 7 := spn_len
  refine Mt.of pn_M (Nat.le_of_ble_eq_true rfl) ?_
  show Run mi_M_tellsNumber d 0 0 0 [(0, .ref 761), (1, .int (nI v))] [] (J, R, L, sh, N) _
  refine r_iload_n (pc2 := 1) d_M_tellsNumber_0 rfl rfl ?_
  refine r_bipush (v := nI 9) (pc2 := 3) d_M_tellsNumber_1 rfl (by decide) ?_
  refine q_icmp_le (tgt := 14) (A := ((v : Nat) : Int)) (B := (9 : Int)) (pc2 := 6) d_M_tellsNumber_3 rfl rfl (nI_toInt (by omega)) (nI_toInt (by omega)) (fun c1 => ?_) (fun c1 => ?_)
  · refine r_aload_n (x := some 761) (pc2 := 15) d_M_tellsNumber_14 rfl rfl ?_
    refine r_bipush (v := nI 48) (pc2 := 17) d_M_tellsNumber_15 rfl (by decide) ?_
    refine r_iload_n (pc2 := 18) d_M_tellsNumber_17 rfl rfl ?_
    refine r_bipush (v := nI 10) (pc2 := 20) d_M_tellsNumber_18 rfl (by decide) ?_
    refine q_iremN (pc2 := 21) d_M_tellsNumber_20 rfl (by omega) (by decide) (by decide) ?_
    refine q_iaddN (pc2 := 22) d_M_tellsNumber_21 rfl ?_
    refine r_callv (M2 := mi_M_tells) (pc2 := 25) d_M_tellsNumber_22 rfl k_M_276 cm_M_tells cv_M_tells (sh_761 hS) (by decide) rfl rfl rfl (Nat.le_of_ble_eq_true rfl) (c_M_tells (c := nI (48 + (v % 10))) hS hR hJ (by first | omega | (rw [List.length_append]; omega))) (d2 := d - 1) (by omega) (Nat.le_of_eq (Nat.zero_add _)) (Nat.le_of_eq (Nat.zero_add _)) (fun r2 h2 hq2 => ?_)
    obtain ⟨rfl, K2, rfl, hK2⟩ := hq2
    change Run _ _ _ _ _ _ [] _ _
    refine Run.ret none d_M_tellsNumber_25 rfl ?_
    exact ⟨rfl, _, rfl, by rw [spn_0 (by omega)]; exact hK2⟩
  · refine r_aload_n (x := some 761) (pc2 := 7) d_M_tellsNumber_6 rfl rfl ?_
    refine r_iload_n (pc2 := 8) d_M_tellsNumber_7 rfl rfl ?_
    refine r_bipush (v := nI 10) (pc2 := 10) d_M_tellsNumber_8 rfl (by decide) ?_
    refine q_idivN (pc2 := 11) d_M_tellsNumber_10 rfl (by omega) (by decide) (by decide) ?_
    obtain ⟨m, rfl⟩ : ∃ m, n = m + 1 := by
      cases n with
      | zero => rw [Nat.pow_zero] at hv; omega
      | succ m => exact ⟨m, rfl⟩
    have hv10 : v / 10 < 10 ^ m := by rw [Nat.pow_succ] at hv; omega
    have hl10 : (spn (v / 10)).length ≤ 7 := spn_len
    refine r_callv (M2 := mi_M_tellsNumber) (pc2 := 14) d_M_tellsNumber_11 rfl k_M_272 cm_M_tellsNumber cv_M_tellsNumber (sh_761 hS) (by decide) rfl rfl rfl (Nat.le_of_ble_eq_true rfl) (ih m (by omega) (v / 10) hv10 (by omega) l J hJ (by omega) (d - 1) (by omega)) (d2 := d - 1) (by omega) (Nat.le_of_eq (Nat.zero_add _)) (Nat.le_of_eq (Nat.zero_add _)) (fun r2 h2 hq2 => ?_)
    obtain ⟨rfl, K3, rfl, hK3⟩ := hq2
    change Run _ _ _ _ _ _ [] _ _
    refine r_aload_n (x := some 761) (pc2 := 15) d_M_tellsNumber_14 rfl rfl ?_
    refine r_bipush (v := nI 48) (pc2 := 17) d_M_tellsNumber_15 rfl (by decide) ?_
    refine r_iload_n (pc2 := 18) d_M_tellsNumber_17 rfl rfl ?_
    refine r_bipush (v := nI 10) (pc2 := 20) d_M_tellsNumber_18 rfl (by decide) ?_
    refine q_iremN (pc2 := 21) d_M_tellsNumber_20 rfl (by omega) (by decide) (by decide) ?_
    refine q_iaddN (pc2 := 22) d_M_tellsNumber_21 rfl ?_
    refine r_callv (M2 := mi_M_tells) (pc2 := 25) d_M_tellsNumber_22 rfl k_M_276 cm_M_tells cv_M_tells (sh_761 hS) (by decide) rfl rfl rfl (Nat.le_of_ble_eq_true rfl) (c_M_tells (c := nI (48 + (v % 10))) hS hR hK3 (by first | omega | (rw [List.length_append]; omega))) (d2 := d - 1) (by omega) (Nat.le_of_eq (Nat.zero_add _)) (Nat.le_of_eq (Nat.zero_add _)) (fun r2 h2 hq2 => ?_)
    obtain ⟨rfl, K4, rfl, hK4⟩ := hq2
    change Run _ _ _ _ _ _ [] _ _
    refine Run.ret none d_M_tellsNumber_25 rfl ?_
    exact ⟨rfl, _, rfl, by rw [spn_s (by omega) (by omega), ← List.append_assoc]; exact hK4⟩
