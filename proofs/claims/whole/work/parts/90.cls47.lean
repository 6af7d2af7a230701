/-! THE PARSER: recursive descent -/
/-! ===== the parser, pure ===== -/
/-- a node: kind, first, second, sign -/
abbrev Nd : Type := Nat × Nat × Nat × Nat
/-- the byte at a place; -1: none -/
def byt (T : Nat → Int32) (n p : Nat) : Int := if p < n then (T p).toInt else -1
theorem byt_lt {T : Nat → Int32} {n p : Nat} (h : byt T n p ≠ -1) : p < n := by
  unfold byt at h
  by_cases q : p < n
  · exact q
  · rw [if_neg q] at h; exact absurd rfl h
/-- digits from a place on, m at most: the place behind, the number -/
def nmL (T : Nat → Int32) (n : Nat) : Nat → Nat → Nat → Nat × Nat
  | 0, p, v => (p, v)
  | m + 1, p, v => if 48 ≤ byt T n p ∧ byt T n p ≤ 57 then nmL T n m (p + 1) (10 * v + (byt T n p).toNat - 48) else (p, v)
theorem nmL_p {T : Nat → Int32} {n : Nat} : ∀ {m p v : Nat}, p ≤ n → p ≤ (nmL T n m p v).1 ∧ (nmL T n m p v).1 ≤ n ∧ (nmL T n m p v).1 ≤ p + m
  | 0, p, v, h => ⟨Nat.le_refl _, h, Nat.le_refl _⟩
  | m + 1, p, v, h => by
    unfold nmL
    by_cases q : 48 ≤ byt T n p ∧ byt T n p ≤ 57
    · rw [if_pos q]
      have := byt_lt (show byt T n p ≠ -1 by omega)
      have := nmL_p (T := T) (n := n) (m := m) (p := p + 1) (v := 10 * v + (byt T n p).toNat - 48) (by omega)
      omega
    · rw [if_neg q]; exact ⟨Nat.le_refl _, h, by show p ≤ p + (m + 1); omega⟩
def nmb (T : Nat → Int32) (n m p lo hi : Nat) : Option (Nat × Nat) := if (nmL T n m p 0).1 = p ∨ (nmL T n m p 0).2 < lo ∨ hi < (nmL T n m p 0).2 then none else some (nmL T n m p 0)
theorem nmb_p {T : Nat → Int32} {n m p lo hi e v : Nat} (hp : p ≤ n) (h : nmb T n m p lo hi = some (e, v)) : p < e ∧ e ≤ n ∧ lo ≤ v ∧ v ≤ hi := by
  have h2 := nmL_p (T := T) (n := n) (m := m) (p := p) (v := 0) hp
  unfold nmb at h
  by_cases q : (nmL T n m p 0).1 = p ∨ (nmL T n m p 0).2 < lo ∨ hi < (nmL T n m p 0).2
  · rw [if_pos q] at h; cases h
  · rw [if_neg q] at h
    have h3 := Option.some.inj h
    rw [h3] at h2 q
    dsimp only at h2 q
    omega
/-- what is neither negated nor in brackets: the fault's place, or the place behind and the node -/
def opd (T : Nat → Int32) (n p : Nat) : Nat ⊕ (Nat × Nd) :=
  if byt T n p = 42 then .inr (p + 1, (4, 0, 0, 0))
  else if byt T n p = 35 then (match nmb T n 6 (p + 1) 0 999999 with
    | none => .inl (p + 1)
    | some (e, lo) => if byt T n e = 45 then (match nmb T n 6 (e + 1) lo 999999 with
      | none => .inl (e + 1)
      | some (e2, hi) => .inr (e2, (6, lo, hi, 0))) else .inl e)
  else if 97 ≤ byt T n p ∧ byt T n p ≤ 100 then (if byt T n (p + 1) = 60 ∨ byt T n (p + 1) = 61 ∨ byt T n (p + 1) = 62 then (match nmb T n 1 (p + 2) 0 9 with
    | none => .inl (p + 2)
    | some (e, v) => .inr (e, (5, (byt T n p).toNat - 97, v, (byt T n (p + 1)).toNat))) else .inl (p + 1))
  else .inl p
/-- sound nodes -/
def NV (ns : List Nd) : Prop := ∀ j, j < ns.length → (3 ≤ (ns.getD j (0, 0, 0, 0)).1 ∧ (ns.getD j (0, 0, 0, 0)).1 ≤ 8) ∧ (((ns.getD j (0, 0, 0, 0)).1 = 3 ∨ 7 ≤ (ns.getD j (0, 0, 0, 0)).1) → (ns.getD j (0, 0, 0, 0)).2.1 < j) ∧ (7 ≤ (ns.getD j (0, 0, 0, 0)).1 → (ns.getD j (0, 0, 0, 0)).2.2.1 < j) ∧ ((ns.getD j (0, 0, 0, 0)).1 = 5 → (ns.getD j (0, 0, 0, 0)).2.1 ≤ 3 ∧ (ns.getD j (0, 0, 0, 0)).2.2.1 ≤ 9 ∧ 60 ≤ (ns.getD j (0, 0, 0, 0)).2.2.2 ∧ (ns.getD j (0, 0, 0, 0)).2.2.2 ≤ 62) ∧ ((ns.getD j (0, 0, 0, 0)).1 = 6 → (ns.getD j (0, 0, 0, 0)).2.1 ≤ (ns.getD j (0, 0, 0, 0)).2.2.1 ∧ (ns.getD j (0, 0, 0, 0)).2.2.1 ≤ 999999)
/-- a node that may come next -/
def nOK (k : Nat) (x : Nd) : Prop := (3 ≤ x.1 ∧ x.1 ≤ 8) ∧ ((x.1 = 3 ∨ 7 ≤ x.1) → x.2.1 < k) ∧ (7 ≤ x.1 → x.2.2.1 < k) ∧ (x.1 = 5 → x.2.1 ≤ 3 ∧ x.2.2.1 ≤ 9 ∧ 60 ≤ x.2.2.2 ∧ x.2.2.2 ≤ 62) ∧ (x.1 = 6 → x.2.1 ≤ x.2.2.1 ∧ x.2.2.1 ≤ 999999)
theorem getD_l {ns : List Nd} {x : Nd} {j : Nat} (h : j < ns.length) : (ns ++ [x]).getD j (0, 0, 0, 0) = ns.getD j (0, 0, 0, 0) := by
  rw [List.getD_eq_getElem?_getD, List.getD_eq_getElem?_getD, List.getElem?_append_left h]
theorem getD_r {ns : List Nd} {x : Nd} : (ns ++ [x]).getD ns.length (0, 0, 0, 0) = x := by
  rw [List.getD_eq_getElem?_getD, List.getElem?_append_right (Nat.le_refl _), Nat.sub_self]; rfl
theorem NV.nil : NV [] := fun j h => absurd h (by simp)
theorem NV.add {ns : List Nd} {x : Nd} (h : NV ns) (hx : nOK ns.length x) : NV (ns ++ [x]) := by
  intro j hj
  rw [List.length_append, List.length_singleton] at hj
  by_cases q : j = ns.length
  · subst q; rw [getD_r]; exact hx
  · rw [getD_l (by omega)]; exact h j (by omega)
theorem opd_ok {T : Nat → Int32} {n p : Nat} (hp : p ≤ n) : (∀ q, opd T n p = .inl q → p ≤ q ∧ q ≤ n) ∧ ∀ q x, opd T n p = .inr (q, x) → p < q ∧ q ≤ n ∧ ∀ k, nOK k x := by
  unfold opd
  by_cases c1 : byt T n p = 42
  · rw [if_pos c1]
    have := byt_lt (show byt T n p ≠ -1 by omega)
    refine ⟨fun q h => by (cases h), fun q x h => ?_⟩
    cases h
    refine ⟨by omega, by omega, fun k => ⟨by dsimp only; omega, fun z => ?_, fun z => ?_, fun z => ?_, fun z => ?_⟩⟩ <;> (dsimp only at z; omega)
  · rw [if_neg c1]
    by_cases c2 : byt T n p = 35
    · rw [if_pos c2]
      have hl := byt_lt (show byt T n p ≠ -1 by omega)
      cases h1 : nmb T n 6 (p + 1) 0 999999 with
      | none => exact ⟨fun q h => by cases h; omega, fun q x h => by (cases h)⟩
      | some r =>
        obtain ⟨e, lo⟩ := r
        have g1 := nmb_p (by omega) h1
        dsimp only
        by_cases c3 : byt T n e = 45
        · rw [if_pos c3]
          have hl2 := byt_lt (show byt T n e ≠ -1 by omega)
          cases h2 : nmb T n 6 (e + 1) lo 999999 with
          | none => exact ⟨fun q h => by cases h; omega, fun q x h => by (cases h)⟩
          | some r2 =>
            obtain ⟨e2, hi⟩ := r2
            have g2 := nmb_p (by omega) h2
            refine ⟨fun q h => by (cases h), fun q x h => ?_⟩
            cases h
            refine ⟨by omega, by omega, fun k => ⟨by dsimp only; omega, fun z => ?_, fun z => ?_, fun z => ?_, fun z => ?_⟩⟩ <;> dsimp only at z ⊢ <;> omega
        · rw [if_neg c3]
          exact ⟨fun q h => by cases h; omega, fun q x h => by (cases h)⟩
    · rw [if_neg c2]
      by_cases c4 : 97 ≤ byt T n p ∧ byt T n p ≤ 100
      · rw [if_pos c4]
        have hl := byt_lt (show byt T n p ≠ -1 by omega)
        by_cases c5 : byt T n (p + 1) = 60 ∨ byt T n (p + 1) = 61 ∨ byt T n (p + 1) = 62
        · rw [if_pos c5]
          have hl2 := byt_lt (show byt T n (p + 1) ≠ -1 by omega)
          cases h1 : nmb T n 1 (p + 2) 0 9 with
          | none => exact ⟨fun q h => by cases h; omega, fun q x h => by (cases h)⟩
          | some r =>
            obtain ⟨e, v⟩ := r
            have g1 := nmb_p (by omega) h1
            refine ⟨fun q h => by (cases h), fun q x h => ?_⟩
            cases h
            refine ⟨by omega, by omega, fun k => ⟨by dsimp only; omega, fun z => ?_, fun z => ?_, fun z => ?_, fun z => ?_⟩⟩ <;> dsimp only at z ⊢ <;> omega
        · rw [if_neg c5]
          exact ⟨fun q h => by cases h; omega, fun q x h => by (cases h)⟩
      · rw [if_neg c4]
        exact ⟨fun q h => by cases h; omega, fun q x h => by (cases h)⟩
/-- recursive descent. tags: 0 a simple one; 1 those with &; 2 on behind the first (a); 3 a condition; 4 on behind the first -/
def rdP (T : Nat → Int32) (n : Nat) : Nat → Nat → Nat → Nat → List Nd → Option Nat × Nat × List Nd
  | 0, _, _, p, ns => (none, p, ns)
  | f + 1, tag, a, p, ns =>
    if tag = 0 then
      (if byt T n p = 33 then (match rdP T n f 0 0 (p + 1) ns with
        | (none, q, m) => (none, q, m)
        | (some t, q, m) => (some m.length, q, m ++ [(3, t, 0, 0)]))
      else if byt T n p = 40 then (match rdP T n f 3 0 (p + 1) ns with
        | (none, q, m) => (none, q, m)
        | (some t, q, m) => if byt T n q = 41 then (some t, q + 1, m) else (none, q, m))
      else (match opd T n p with
        | .inl q => (none, q, ns)
        | .inr (q, x) => (some ns.length, q, ns ++ [x])))
    else if tag = 1 then (match rdP T n f 0 0 p ns with
      | (none, q, m) => (none, q, m)
      | (some t, q, m) => rdP T n f 2 t q m)
    else if tag = 2 then (if byt T n p = 38 then (match rdP T n f 0 0 (p + 1) ns with
      | (none, q, m) => (none, q, m)
      | (some t, q, m) => rdP T n f 2 m.length q (m ++ [(7, a, t, 0)])) else (some a, p, ns))
    else if tag = 3 then (match rdP T n f 1 0 p ns with
      | (none, q, m) => (none, q, m)
      | (some t, q, m) => rdP T n f 4 t q m)
    else (if byt T n p = 124 then (match rdP T n f 1 0 (p + 1) ns with
      | (none, q, m) => (none, q, m)
      | (some t, q, m) => rdP T n f 4 m.length q (m ++ [(8, a, t, 0)])) else (some a, p, ns))
/-- how much fuel it takes -/
def FU (tag m : Nat) : Nat := if tag = 0 then 4 * m + 1 else if tag = 1 then 4 * m + 3 else if tag = 3 then 4 * m + 4 else 4 * m + 2
/-- what comes of it: places, nodes -/
def RDok (n p k : Nat) (r : Option Nat × Nat × List Nd) : Prop := p ≤ r.2.1 ∧ r.2.1 ≤ n ∧ NV r.2.2 ∧ k ≤ r.2.2.length ∧ r.2.2.length + p ≤ k + r.2.1 ∧ ∀ t, r.1 = some t → t < r.2.2.length
theorem rdP_ok {T : Nat → Int32} {n : Nat} : ∀ (f tag a p : Nat) (ns : List Nd), p ≤ n → NV ns → ((tag = 2 ∨ 4 ≤ tag) → a < ns.length) → RDok n p ns.length (rdP T n f tag a p ns) := by
  intro f
  induction f with
  | zero => intro tag a p ns hp hn _; exact ⟨Nat.le_refl _, hp, hn, Nat.le_refl _, Nat.le_refl _, fun t h => by (cases h)⟩
  | succ f ih =>
    intro tag a p ns hp hn ha
    unfold rdP
    have lp : ∀ c : Int, c ≠ -1 → byt T n p = c → p + 1 ≤ n := fun c h1 h2 => byt_lt (by rw [h2]; exact h1)
    by_cases t0 : tag = 0
    · rw [if_pos t0]
      by_cases c1 : byt T n p = 33
      · rw [if_pos c1]
        have := ih 0 0 (p + 1) ns (lp 33 (by decide) c1) hn (fun h => by omega)
        cases h : rdP T n f 0 0 (p + 1) ns with
        | mk o r =>
          obtain ⟨q, m⟩ := r
          rw [h] at this
          obtain ⟨h1, h2, h3, h4, h5, h6⟩ := this
          dsimp only at h1 h2 h3 h4 h5 h6
          cases o with
          | none => exact ⟨by dsimp only; omega, h2, h3, h4, by dsimp only; omega, fun t z => by (cases z)⟩
          | some t =>
            have ht := h6 t rfl
            refine ⟨by dsimp only; omega, h2, h3.add ⟨by dsimp only; omega, fun _ => ht, fun z => ?_, fun z => ?_, fun z => ?_⟩, ?_, ?_, fun t2 z => ?_⟩
            · dsimp only at z; omega
            · dsimp only at z; omega
            · dsimp only at z; omega
            · dsimp only; rw [List.length_append, List.length_singleton]; omega
            · dsimp only; rw [List.length_append, List.length_singleton]; omega
            · cases z; dsimp only; rw [List.length_append, List.length_singleton]; omega
      · rw [if_neg c1]
        by_cases c2 : byt T n p = 40
        · rw [if_pos c2]
          have := ih 3 0 (p + 1) ns (lp 40 (by decide) c2) hn (fun h => by omega)
          cases h : rdP T n f 3 0 (p + 1) ns with
          | mk o r =>
            obtain ⟨q, m⟩ := r
            rw [h] at this
            obtain ⟨h1, h2, h3, h4, h5, h6⟩ := this
            dsimp only at h1 h2 h3 h4 h5 h6
            cases o with
            | none => exact ⟨by dsimp only; omega, h2, h3, h4, by dsimp only; omega, fun t z => by (cases z)⟩
            | some t =>
              dsimp only
              by_cases c3 : byt T n q = 41
              · rw [if_pos c3]
                have := byt_lt (show byt T n q ≠ -1 by omega)
                exact ⟨by dsimp only; omega, by dsimp only; omega, h3, h4, by dsimp only; omega, fun t2 z => by cases z; exact h6 t rfl⟩
              · rw [if_neg c3]
                exact ⟨by dsimp only; omega, h2, h3, h4, by dsimp only; omega, fun t2 z => by (cases z)⟩
        · rw [if_neg c2]
          have ho := opd_ok (T := T) hp
          cases h : opd T n p with
          | inl q => have := ho.1 q h; exact ⟨this.1, this.2, hn, Nat.le_refl _, by dsimp only; omega, fun t z => by (cases z)⟩
          | inr r =>
            obtain ⟨q, x⟩ := r
            obtain ⟨g1, g2, g3⟩ := ho.2 q x h
            refine ⟨by dsimp only; omega, g2, hn.add (g3 _), ?_, ?_, fun t z => ?_⟩
            · dsimp only; rw [List.length_append, List.length_singleton]; omega
            · dsimp only; rw [List.length_append, List.length_singleton]; omega
            · cases z; dsimp only; rw [List.length_append, List.length_singleton]; omega
    · rw [if_neg t0]
      have seq : ∀ (tg tg2 p1 : Nat) (ns1 : List Nd), p ≤ p1 → p1 ≤ n → NV ns1 → ns.length ≤ ns1.length → ns1.length + p ≤ ns.length + p1 → (tg = 0 ∨ tg = 1) → (tg2 = 2 ∨ tg2 = 4) → RDok n p ns.length (match rdP T n f tg 0 p1 ns1 with | (none, q, m) => (none, q, m) | (some t, q, m) => rdP T n f tg2 t q m) := by
        intro tg tg2 p1 ns1 g1 g2 g3 g4 g5 g6 g7
        have := ih tg 0 p1 ns1 g2 g3 (fun h => by omega)
        cases h : rdP T n f tg 0 p1 ns1 with
        | mk o r =>
          obtain ⟨q, m⟩ := r
          rw [h] at this
          obtain ⟨h1, h2, h3, h4, h5, h6⟩ := this
          dsimp only at h1 h2 h3 h4 h5 h6
          cases o with
          | none => exact ⟨by dsimp only; omega, h2, h3, by dsimp only; omega, by dsimp only; omega, fun t z => by (cases z)⟩
          | some t =>
            obtain ⟨k1, k2, k3, k4, k5, k6⟩ := ih tg2 t q m h2 h3 (fun _ => h6 t rfl)
            exact ⟨by dsimp only; omega, k2, k3, by dsimp only; omega, by dsimp only; omega, k6⟩
      have seq2 : ∀ (tg tg2 kd : Nat), p + 1 ≤ n → a < ns.length → (tg = 0 ∨ tg = 1) → (tg2 = 2 ∨ tg2 = 4) → (kd = 7 ∨ kd = 8) → RDok n p ns.length (match rdP T n f tg 0 (p + 1) ns with | (none, q, m) => (none, q, m) | (some t, q, m) => rdP T n f tg2 m.length q (m ++ [(kd, a, t, 0)])) := by
        intro tg tg2 kd g1 g2 g3 g4 g5
        have := ih tg 0 (p + 1) ns g1 hn (fun h => by omega)
        cases h : rdP T n f tg 0 (p + 1) ns with
        | mk o r =>
          obtain ⟨q, m⟩ := r
          rw [h] at this
          obtain ⟨h1, h2, h3, h4, h5, h6⟩ := this
          dsimp only at h1 h2 h3 h4 h5 h6
          cases o with
          | none => exact ⟨by dsimp only; omega, h2, h3, by dsimp only; omega, by dsimp only; omega, fun t z => by (cases z)⟩
          | some t =>
            have ht := h6 t rfl
            have hv : NV (m ++ [(kd, a, t, 0)]) := h3.add ⟨by dsimp only; omega, fun _ => by dsimp only; omega, fun _ => ht, fun z => by dsimp only at z; omega, fun z => by dsimp only at z; omega⟩
            have hl : (m ++ [(kd, a, t, 0)]).length = m.length + 1 := by rw [List.length_append, List.length_singleton]
            obtain ⟨k1, k2, k3, k4, k5, k6⟩ := ih tg2 m.length q (m ++ [(kd, a, t, 0)]) h2 hv (fun _ => by omega)
            rw [hl] at k4 k5
            exact ⟨by dsimp only; omega, k2, k3, by dsimp only; omega, by dsimp only; omega, k6⟩
      have stay : a < ns.length → RDok n p ns.length (some a, p, ns) := fun h => ⟨Nat.le_refl _, hp, hn, Nat.le_refl _, Nat.le_refl _, fun t z => by cases z; exact h⟩
      by_cases t1 : tag = 1
      · rw [if_pos t1]; exact seq 0 2 p ns (Nat.le_refl _) hp hn (Nat.le_refl _) (Nat.le_refl _) (Or.inl rfl) (Or.inl rfl)
      · rw [if_neg t1]
        by_cases t2 : tag = 2
        · rw [if_pos t2]
          by_cases c : byt T n p = 38
          · rw [if_pos c]; exact seq2 0 2 7 (lp 38 (by decide) c) (ha (Or.inl t2)) (Or.inl rfl) (Or.inl rfl) (Or.inl rfl)
          · rw [if_neg c]; exact stay (ha (Or.inl t2))
        · rw [if_neg t2]
          by_cases t3 : tag = 3
          · rw [if_pos t3]; exact seq 1 4 p ns (Nat.le_refl _) hp hn (Nat.le_refl _) (Nat.le_refl _) (Or.inr rfl) (Or.inr rfl)
          · rw [if_neg t3]
            by_cases c : byt T n p = 124
            · rw [if_pos c]; exact seq2 1 4 8 (lp 124 (by decide) c) (ha (Or.inr (by omega))) (Or.inr rfl) (Or.inr rfl) (Or.inr rfl)
            · rw [if_neg c]; exact stay (ha (Or.inr (by omega)))
