/-! SPELLED: lengths, postfix -/
/-! spelled, pure: nodes stand as in postfix, and what is spelled is no longer than what was read -/
def dgN (v : Nat) : Nat := if v < 10 then 1 else if v < 100 then 2 else if v < 1000 then 3 else if v < 10000 then 4 else if v < 100000 then 5 else 6
def br0 (ns : List Nd) (t : Nat) : Nat := if 7 ≤ (nd ns t).1 then 2 else 0
def br1 (ns : List Nd) (t : Nat) : Nat := if (nd ns t).1 = 8 then 2 else 0
/-- how long a node's text is -/
def lnF (ns : List Nd) : Nat → Nat → Nat
  | 0, _ => 0
  | f + 1, t => if (nd ns t).1 = 3 then 1 + lnF ns f (nd ns t).2.1 + br0 ns (nd ns t).2.1
    else if (nd ns t).1 = 4 then 1
    else if (nd ns t).1 = 5 then 3
    else if (nd ns t).1 = 6 then 2 + dgN (nd ns t).2.1 + dgN (nd ns t).2.2.1
    else if (nd ns t).1 = 7 then 1 + (lnF ns f (nd ns t).2.1 + br1 ns (nd ns t).2.1) + (lnF ns f (nd ns t).2.2.1 + br0 ns (nd ns t).2.2.1)
    else 1 + lnF ns f (nd ns t).2.1 + (lnF ns f (nd ns t).2.2.1 + br1 ns (nd ns t).2.2.1)
theorem lnF_f {ns ms : List Nd} (hv : NV ns) (hp : ∀ j, j < ns.length → nd ms j = nd ns j) : ∀ (f g t : Nat), t < ns.length → t < f → t < g → lnF ns f t = lnF ms g t := by
  intro f
  induction f with
  | zero => intro g t _ h; omega
  | succ f ih =>
    intro g t ht h1 h2
    obtain ⟨g, rfl⟩ : ∃ g', g = g' + 1 := ⟨g - 1, by omega⟩
    obtain ⟨v1, v2, v3, -, -⟩ := hv.nd ht
    have b0 : ∀ j, j < ns.length → br0 ms j = br0 ns j := fun j hj => by unfold br0; rw [hp j hj]
    have b1 : ∀ j, j < ns.length → br1 ms j = br1 ns j := fun j hj => by unfold br1; rw [hp j hj]
    unfold lnF
    rw [hp t ht]
    by_cases c3 : (nd ns t).1 = 3
    · have := v2 (Or.inl c3)
      rw [if_pos c3, if_pos c3, ih g _ (by omega) (by omega) (by omega), b0 _ (by omega)]
    · rw [if_neg c3, if_neg c3]
      by_cases c4 : (nd ns t).1 = 4
      · rw [if_pos c4, if_pos c4]
      · rw [if_neg c4, if_neg c4]
        by_cases c5 : (nd ns t).1 = 5
        · rw [if_pos c5, if_pos c5]
        · rw [if_neg c5, if_neg c5]
          by_cases c6 : (nd ns t).1 = 6
          · rw [if_pos c6, if_pos c6]
          · rw [if_neg c6, if_neg c6]
            have h3 := v2 (Or.inr (by omega))
            have h4 := v3 (by omega)
            rw [ih g _ (by omega) (by omega) (by omega), ih g (nd ns t).2.2.1 (by omega) (by omega) (by omega), b0 _ (by omega), b1 _ (by omega), b1 _ (by omega)]
def ln (ns : List Nd) (t : Nat) : Nat := lnF ns (t + 1) t
theorem nd_l {ns : List Nd} {x : Nd} {j : Nat} (h : j < ns.length) : nd (ns ++ [x]) j = nd ns j := getD_l h
theorem nd_r {ns : List Nd} {x : Nd} : nd (ns ++ [x]) ns.length = x := getD_r
theorem ln_p {ns ms : List Nd} (hv : NV ns) (hp : ∀ j, j < ns.length → nd ms j = nd ns j) {t : Nat} (ht : t < ns.length) : ln ms t = ln ns t := (lnF_f hv hp _ _ t ht (by omega) (by omega)).symm
theorem ln_eq {ns : List Nd} (hv : NV ns) {t : Nat} (ht : t < ns.length) : ln ns t = (if (nd ns t).1 = 3 then 1 + ln ns (nd ns t).2.1 + br0 ns (nd ns t).2.1
    else if (nd ns t).1 = 4 then 1
    else if (nd ns t).1 = 5 then 3
    else if (nd ns t).1 = 6 then 2 + dgN (nd ns t).2.1 + dgN (nd ns t).2.2.1
    else if (nd ns t).1 = 7 then 1 + (ln ns (nd ns t).2.1 + br1 ns (nd ns t).2.1) + (ln ns (nd ns t).2.2.1 + br0 ns (nd ns t).2.2.1)
    else 1 + ln ns (nd ns t).2.1 + (ln ns (nd ns t).2.2.1 + br1 ns (nd ns t).2.2.1)) := by
  obtain ⟨v1, v2, v3, -, -⟩ := hv.nd ht
  have e : ∀ j, j < t → lnF ns t j = ln ns j := fun j hj => lnF_f hv (fun _ _ => rfl) _ _ j (by omega) hj (by omega)
  show lnF ns (t + 1) t = _
  unfold lnF
  by_cases c3 : (nd ns t).1 = 3
  · rw [if_pos c3, if_pos c3, e _ (v2 (Or.inl c3))]
  · rw [if_neg c3, if_neg c3]
    by_cases c4 : (nd ns t).1 = 4
    · rw [if_pos c4, if_pos c4]
    · rw [if_neg c4, if_neg c4]
      by_cases c5 : (nd ns t).1 = 5
      · rw [if_pos c5, if_pos c5]
      · rw [if_neg c5, if_neg c5]
        by_cases c6 : (nd ns t).1 = 6
        · rw [if_pos c6, if_pos c6]
        · rw [if_neg c6, if_neg c6, e _ (v2 (Or.inr (by omega))), e _ (v3 (by omega))]
/-- the nodes from lo to t are the tree of t, in postfix -/
def PFt (ns : List Nd) : Nat → Nat → Nat → Prop
  | 0, _, _ => False
  | f + 1, lo, t => if (nd ns t).1 = 3 then (lo < t ∧ (nd ns t).2.1 = t - 1) ∧ PFt ns f lo (t - 1)
    else if 7 ≤ (nd ns t).1 then (lo < t ∧ (nd ns t).2.2.1 = t - 1 ∧ lo ≤ (nd ns t).2.1 ∧ (nd ns t).2.1 + 1 ≤ t - 1) ∧ PFt ns f lo (nd ns t).2.1 ∧ PFt ns f ((nd ns t).2.1 + 1) (t - 1)
    else lo = t
theorem PFt_p {ns ms : List Nd} (hp : ∀ j, j < ns.length → nd ms j = nd ns j) : ∀ (f g lo t : Nat), t < ns.length → t < g → PFt ns f lo t → PFt ms g lo t := by
  intro f
  induction f with
  | zero => intro g lo t _ _ h; exact absurd h (by unfold PFt; exact id)
  | succ f ih =>
    intro g lo t ht hg h
    obtain ⟨g, rfl⟩ : ∃ g', g = g' + 1 := ⟨g - 1, by omega⟩
    unfold PFt at h ⊢
    rw [hp t ht]
    by_cases c3 : (nd ns t).1 = 3
    · rw [if_pos c3] at h ⊢
      exact ⟨h.1, ih g lo (t - 1) (by omega) (by omega) h.2⟩
    · rw [if_neg c3] at h ⊢
      by_cases c7 : 7 ≤ (nd ns t).1
      · rw [if_pos c7] at h ⊢
        obtain ⟨h1, h2, h3⟩ := h
        exact ⟨h1, ih g _ _ (by omega) (by omega) h2, ih g _ _ (by omega) (by omega) h3⟩
      · rw [if_neg c7] at h ⊢; exact h
def PF (ns : List Nd) (lo t : Nat) : Prop := PFt ns (t + 1) lo t
theorem PF.p {ns ms : List Nd} {lo t : Nat} (h : PF ns lo t) (hp : ∀ j, j < ns.length → nd ms j = nd ns j) (ht : t < ns.length) : PF ms lo t := PFt_p hp _ _ lo t ht (by omega) h
theorem PF.leaf {ns : List Nd} {x : Nd} (h : x.1 ≠ 3) (h7 : ¬ 7 ≤ x.1) : PF (ns ++ [x]) ns.length ns.length := by
  unfold PF PFt
  rw [nd_r, if_neg h, if_neg h7]
theorem PF.one {ns : List Nd} {lo t : Nat} (h : PF ns lo t) (ht : t + 1 = ns.length) (hl : lo ≤ t) : PF (ns ++ [(3, t, 0, 0)]) lo ns.length := by
  unfold PF
  rw [show PFt (ns ++ [(3, t, 0, 0)]) (ns.length + 1) lo ns.length = _ from rfl]
  unfold PFt
  rw [nd_r, if_pos rfl]
  exact ⟨⟨by omega, by show t = ns.length - 1; omega⟩, by rw [← ht]; exact PFt_p (fun j hj => nd_l hj) _ _ lo t (by omega) (by omega) h⟩
theorem PF.two {ns : List Nd} {lo a t k : Nat} (hk : k = 7 ∨ k = 8) (h1 : PF ns lo a) (h2 : PF ns (a + 1) t) (ht : t + 1 = ns.length) (hl : lo ≤ a) (ha : a + 1 ≤ t) : PF (ns ++ [(k, a, t, 0)]) lo ns.length := by
  unfold PF
  unfold PFt
  rw [nd_r, if_neg (by show ¬ k = 3; omega), if_pos (by show 7 ≤ k; omega)]
  refine ⟨⟨by omega, by show t = ns.length - 1; omega, hl, by show a + 1 ≤ ns.length - 1; omega⟩, PFt_p (fun j hj => nd_l hj) _ _ lo a (by omega) (by omega) h1, ?_⟩
  rw [show ns.length - 1 = t by omega]
  exact PFt_p (fun j hj => nd_l hj) _ _ (a + 1) t (by omega) (by omega) h2
/-- digits read are as many as those spelled, at least -/
theorem nmL_d {T : Nat → Int32} {n : Nat} : ∀ {m p v c : Nat}, v < 10 ^ c → (nmL T n m p v).2 < 10 ^ (c + ((nmL T n m p v).1 - p)) ∧ p ≤ (nmL T n m p v).1
  | 0, p, v, c, h => by
    show v < 10 ^ (c + (p - p)) ∧ p ≤ p
    rw [Nat.sub_self]; exact ⟨h, Nat.le_refl _⟩
  | m + 1, p, v, c, h => by
    unfold nmL
    by_cases q : 48 ≤ byt T n p ∧ byt T n p ≤ 57
    · rw [if_pos q]
      have h10 := Nat.pow_succ 10 c
      obtain ⟨h1, h2⟩ := nmL_d (T := T) (n := n) (m := m) (p := p + 1) (v := 10 * v + (byt T n p).toNat - 48) (c := c + 1) (by omega)
      refine ⟨?_, by omega⟩
      rw [show c + ((nmL T n m (p + 1) (10 * v + (byt T n p).toNat - 48)).1 - p) = c + 1 + ((nmL T n m (p + 1) (10 * v + (byt T n p).toNat - 48)).1 - (p + 1)) by omega]
      exact h1
    · rw [if_neg q]
      show v < 10 ^ (c + (p - p)) ∧ p ≤ p
      rw [Nat.sub_self]; exact ⟨h, Nat.le_refl _⟩
theorem dgN_le {v c : Nat} (hc : 1 ≤ c) (h : v < 10 ^ c) : dgN v ≤ c := by
  unfold dgN
  rcases (show c = 1 ∨ c = 2 ∨ c = 3 ∨ c = 4 ∨ c = 5 ∨ 6 ≤ c by omega) with e | e | e | e | e | e
  · subst e; rw [if_pos (by omega)]; exact Nat.le_refl _
  · subst e; repeat' split
    all_goals omega
  · subst e; repeat' split
    all_goals omega
  · subst e; repeat' split
    all_goals omega
  · subst e; repeat' split
    all_goals omega
  · repeat' split
    all_goals omega
theorem nmb_d {T : Nat → Int32} {n m p lo hi e v : Nat} (hp : p ≤ n) (h : nmb T n m p lo hi = some (e, v)) : p + dgN v ≤ e := by
  have hb := nmb_p hp h
  unfold nmb at h
  by_cases q : (nmL T n m p 0).1 = p ∨ (nmL T n m p 0).2 < lo ∨ hi < (nmL T n m p 0).2
  · rw [if_pos q] at h; cases h
  · rw [if_neg q] at h
    have h3 := Option.some.inj h
    have := (nmL_d (T := T) (n := n) (m := m) (p := p) (v := 0) (c := 0) (by decide)).1
    rw [h3] at this
    dsimp only at this
    rw [Nat.zero_add] at this
    have := dgN_le (by omega) this
    omega
