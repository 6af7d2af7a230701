/-! THE SPELLER: texts, pure -/
/-! texts of nodes -/
def bk (b : Bool) (l : List Int32) : List Int32 := if b = true then nI 40 :: (l ++ [nI 41]) else l
def k7 (ns : List Nd) (t : Nat) : Bool := decide (7 ≤ (nd ns t).1)
def k8 (ns : List Nd) (t : Nat) : Bool := decide ((nd ns t).1 = 8)
def txF (ns : List Nd) : Nat → Nat → List Int32
  | 0, _ => []
  | f + 1, t => if (nd ns t).1 = 3 then nI 33 :: bk (k7 ns (nd ns t).2.1) (txF ns f (nd ns t).2.1)
    else if (nd ns t).1 = 4 then [nI 42]
    else if (nd ns t).1 = 5 then [nI (97 + (nd ns t).2.1), nI (nd ns t).2.2.2, nI (48 + (nd ns t).2.2.1)]
    else if (nd ns t).1 = 6 then nI 35 :: (spn (nd ns t).2.1 ++ nI 45 :: spn (nd ns t).2.2.1)
    else if (nd ns t).1 = 7 then bk (k8 ns (nd ns t).2.1) (txF ns f (nd ns t).2.1) ++ nI 38 :: bk (k7 ns (nd ns t).2.2.1) (txF ns f (nd ns t).2.2.1)
    else txF ns f (nd ns t).2.1 ++ nI 124 :: bk (k8 ns (nd ns t).2.2.1) (txF ns f (nd ns t).2.2.1)
theorem txF_f {ns : List Nd} (hv : NV ns) : ∀ (f g t : Nat), t < ns.length → t < f → t < g → txF ns f t = txF ns g t := by
  intro f
  induction f with
  | zero => intro g t _ h; omega
  | succ f ih =>
    intro g t ht h1 h2
    obtain ⟨g, rfl⟩ : ∃ g', g = g' + 1 := ⟨g - 1, by omega⟩
    obtain ⟨v1, v2, v3, -, -⟩ := hv.nd ht
    unfold txF
    by_cases c3 : (nd ns t).1 = 3
    · have := v2 (Or.inl c3)
      rw [if_pos c3, if_pos c3, ih g _ (by omega) (by omega) (by omega)]
    · rw [if_neg c3, if_neg c3]
      by_cases c4 : (nd ns t).1 = 4
      · rw [if_pos c4, if_pos c4]
      · rw [if_neg c4, if_neg c4]
        by_cases c5 : (nd ns t).1 = 5
        · rw [if_pos c5, if_pos c5]
        · rw [if_neg c5, if_neg c5]
          by_cases c6 : (nd ns t).1 = 6
          · rw [if_pos c6, if_pos c6]
          · rw [if_neg c6, if_neg c6]
            have h3 := v2 (Or.inr (by omega))
            have h4 := v3 (by omega)
            rw [ih g _ (by omega) (by omega) (by omega), ih g (nd ns t).2.2.1 (by omega) (by omega) (by omega)]
def tx (ns : List Nd) (t : Nat) : List Int32 := txF ns (t + 1) t
theorem tx_eq {ns : List Nd} (hv : NV ns) {t : Nat} (ht : t < ns.length) : tx ns t = (if (nd ns t).1 = 3 then nI 33 :: bk (k7 ns (nd ns t).2.1) (tx ns (nd ns t).2.1)
    else if (nd ns t).1 = 4 then [nI 42]
    else if (nd ns t).1 = 5 then [nI (97 + (nd ns t).2.1), nI (nd ns t).2.2.2, nI (48 + (nd ns t).2.2.1)]
    else if (nd ns t).1 = 6 then nI 35 :: (spn (nd ns t).2.1 ++ nI 45 :: spn (nd ns t).2.2.1)
    else if (nd ns t).1 = 7 then bk (k8 ns (nd ns t).2.1) (tx ns (nd ns t).2.1) ++ nI 38 :: bk (k7 ns (nd ns t).2.2.1) (tx ns (nd ns t).2.2.1)
    else tx ns (nd ns t).2.1 ++ nI 124 :: bk (k8 ns (nd ns t).2.2.1) (tx ns (nd ns t).2.2.1)) := by
  obtain ⟨v1, v2, v3, -, -⟩ := hv.nd ht
  have e : ∀ j, j < t → txF ns t j = tx ns j := fun j hj => txF_f hv _ _ j (by omega) hj (by omega)
  show txF ns (t + 1) t = _
  unfold txF
  by_cases c3 : (nd ns t).1 = 3
  · rw [if_pos c3, if_pos c3, e _ (v2 (Or.inl c3))]
  · rw [if_neg c3, if_neg c3]
    by_cases c4 : (nd ns t).1 = 4
    · rw [if_pos c4, if_pos c4]
    · rw [if_neg c4, if_neg c4]
      by_cases c5 : (nd ns t).1 = 5
      · rw [if_pos c5, if_pos c5]
      · rw [if_neg c5, if_neg c5]
        by_cases c6 : (nd ns t).1 = 6
        · rw [if_pos c6, if_pos c6]
        · rw [if_neg c6, if_neg c6, e _ (v2 (Or.inr (by omega))), e _ (v3 (by omega))]
theorem bk_l {b : Bool} {l : List Int32} : (bk b l).length = l.length + (if b = true then 2 else 0) := by
  unfold bk
  cases b with
  | true => rw [if_pos rfl, if_pos rfl, List.length_cons, List.length_append, List.length_singleton]
  | false => rw [if_neg (by decide), if_neg (by decide)]; rfl
theorem br0_k {ns : List Nd} {t : Nat} : br0 ns t = (if k7 ns t = true then 2 else 0) := by
  unfold br0 k7
  by_cases a : 7 ≤ (nd ns t).1
  · rw [if_pos a, if_pos (decide_eq_true a)]
  · rw [if_neg a, if_neg (by rw [decide_eq_false a]; decide)]
theorem br1_k {ns : List Nd} {t : Nat} : br1 ns t = (if k8 ns t = true then 2 else 0) := by
  unfold br1 k8
  by_cases a : (nd ns t).1 = 8
  · rw [if_pos a, if_pos (decide_eq_true a)]
  · rw [if_neg a, if_neg (by rw [decide_eq_false a]; decide)]
/-- sound for spelling: numbers are small -/
def NV6 (ns : List Nd) : Prop := ∀ j, j < ns.length → (nd ns j).1 = 6 → (nd ns j).2.1 < 1000000 ∧ (nd ns j).2.2.1 < 1000000
theorem NV.v6 {ns : List Nd} (h : NV ns) : NV6 ns := fun j hj h6 => by
  obtain ⟨-, -, -, -, h5⟩ := h.nd hj
  have := h5 h6
  omega
theorem tx_len {ns : List Nd} (hv : NV ns) : ∀ t, t < ns.length → (tx ns t).length = ln ns t := by
  intro t
  induction t using Nat.strongRecOn with | ind t ih => ?_
  intro ht
  obtain ⟨v1, v2, v3, -, -⟩ := hv.nd ht
  rw [tx_eq hv ht, ln_eq hv ht]
  by_cases c3 : (nd ns t).1 = 3
  · have h2 := v2 (Or.inl c3)
    rw [if_pos c3, if_pos c3, List.length_cons, bk_l, ih _ h2 (by omega), br0_k]; omega
  · rw [if_neg c3, if_neg c3]
    by_cases c4 : (nd ns t).1 = 4
    · rw [if_pos c4, if_pos c4]; rfl
    · rw [if_neg c4, if_neg c4]
      by_cases c5 : (nd ns t).1 = 5
      · rw [if_pos c5, if_pos c5]; rfl
      · rw [if_neg c5, if_neg c5]
        by_cases c6 : (nd ns t).1 = 6
        · obtain ⟨w1, w2⟩ := hv.v6 t ht c6
          rw [if_pos c6, if_pos c6, List.length_cons, List.length_append, List.length_cons, (spn_g w1).1, (spn_g w2).1]; omega
        · have h2 := v2 (Or.inr (by omega))
          have h3 := v3 (by omega)
          rw [if_neg c6, if_neg c6]
          by_cases c7 : (nd ns t).1 = 7
          · rw [if_pos c7, if_pos c7, List.length_append, List.length_cons, bk_l, bk_l, ih _ h2 (by omega), ih _ h3 (by omega), br0_k, br1_k]; omega
          · rw [if_neg c7, if_neg c7, List.length_append, List.length_cons, bk_l, ih _ h2 (by omega), ih _ h3 (by omega), br1_k]; omega
/-- the reference's text is the class's -/
theorem tx_spt {K F C S : Nat → Int32} {nt b : Nat} {ns : List Nd} (hV : TV K F C nt) (hb : b + ns.length ≤ nt) (hb6 : nt ≤ 1000000) (hv : NV ns) (hn : NIN K F C S b ns) : ∀ t, t < ns.length → spt K F C S (b + t) = tx ns t := by
  intro t
  induction t using Nat.strongRecOn with | ind t ih => ?_
  intro ht
  obtain ⟨v1, v2, v3, v5, v6⟩ := hv.nd ht
  obtain ⟨n1, n2, n3, n4, n5⟩ := hn t ht
  have kk : ∀ j, j < ns.length → (K (b + j)).toInt = ((nd ns j).1 : Int) := fun j hj => by
    have := (hv.nd hj).1
    rw [(hn j hj).1]; exact nI_toInt (by omega)
  have ff : ∀ x, x < t → F (b + t) = nI (b + x) → (F (b + t)).toInt.toNat = b + x := fun x hx e => by rw [e, nI_toInt (by omega), Int.toNat_natCast]
  have cf : ∀ x, x < t → C (b + t) = nI (b + x) → (C (b + t)).toInt.toNat = b + x := fun x hx e => by rw [e, nI_toInt (by omega), Int.toNat_natCast]
  have d7 : ∀ x, x < t → decide (7 ≤ (K (b + x)).toInt) = k7 ns x := fun x hx => by
    unfold k7; rw [kk x (by omega)]; exact decide_eq_decide.mpr (by omega)
  have d8 : ∀ x, x < t → decide ((K (b + x)).toInt = 8) = k8 ns x := fun x hx => by
    unfold k8; rw [kk x (by omega)]; exact decide_eq_decide.mpr (by omega)
  rw [spt_eq hV (show b + t < nt by omega), tx_eq hv ht, kk t ht]
  by_cases c3 : (nd ns t).1 = 3
  · have h2 := v2 (Or.inl c3)
    rw [if_pos (by omega), if_pos c3, ff _ h2 (n2 (Or.inl c3)), d7 _ h2]
    unfold spIn bk
    rw [ih _ h2 (by omega)]
  · rw [if_neg (by omega), if_neg c3]
    by_cases c4 : (nd ns t).1 = 4
    · rw [if_pos (by omega), if_pos c4]
    · rw [if_neg (by omega), if_neg c4]
      by_cases c5 : (nd ns t).1 = 5
      · obtain ⟨w1, w2⟩ := n4 (Or.inl c5)
        rw [if_pos (by omega), if_pos c5, w1, w2, n5 c5, ← nI_add, ← nI_add]
      · rw [if_neg (by omega), if_neg c5]
        by_cases c6 : (nd ns t).1 = 6
        · obtain ⟨w1, w2⟩ := n4 (Or.inr c6)
          obtain ⟨z1, z2⟩ := hv.v6 t ht c6
          rw [if_pos (by omega), if_pos c6, w1, w2, nI_toInt (by omega), nI_toInt (by omega), Int.toNat_natCast, Int.toNat_natCast]
        · have h2 := v2 (Or.inr (by omega))
          have h3 := v3 (by omega)
          rw [if_neg (by omega), if_neg c6, ff _ h2 (n2 (Or.inr (by omega))), cf _ h3 (n3 (by omega)), d7 _ h3, d8 _ h2, d8 _ h3, ih _ h2 (by omega)]
          unfold spIn bk
          rw [ih _ h2 (by omega), ih _ h3 (by omega)]
          by_cases c7 : (nd ns t).1 = 7
          · rw [if_pos (by omega), if_pos c7]
          · rw [if_neg (by omega), if_neg c7]
