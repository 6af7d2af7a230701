/-! THE PARSER: the machine that the class is, and that it does as recursive descent does -/
/-! the machine that the class is: nodes, signs that wait (the top first), nodes that are loose (the top first) -/
def jn : List Nd → List Nat → List Nat → Bool → List Nd × List Nat × List Nat
  | ns, [], Lo, _ => (ns, [], Lo)
  | ns, s :: W, Lo, e => if s = 38 ∨ (e = true ∧ s = 124) then (match Lo with
    | b :: a :: Lo => jn (ns ++ [(if s = 38 then 7 else 8, a, b, 0)]) W (ns.length :: Lo) e
    | Lo => (ns, s :: W, Lo)) else (ns, s :: W, Lo)
def ng : List Nd → List Nat → List Nat → List Nd × List Nat × List Nat
  | ns, [], Lo => (ns, [], Lo)
  | ns, s :: W, Lo => if s = 33 then (match Lo with
    | t :: Lo => ng (ns ++ [(3, t, 0, 0)]) W (ns.length :: Lo)
    | [] => (ns, s :: W, [])) else (ns, s :: W, Lo)
def opn : List Nat → Nat
  | [] => 0
  | s :: W => (if s = 40 then 1 else 0) + opn W
theorem opn_c {s : Nat} {W : List Nat} : opn (s :: W) = (if s = 40 then 1 else 0) + opn W := rfl
/-- at the end: the nodes, or none; the place -/
def rdM (T : Nat → Int32) (n : Nat) : Nat → Bool → Nat → List Nd → List Nat → List Nat → Option (List Nd) × Nat
  | 0, _, p, _, _, _ => (none, p)
  | f + 1, due, p, ns, W, Lo => if n ≤ p then (none, p) else
    if due = true then
      (if byt T n p = 33 then rdM T n f true (p + 1) ns (33 :: W) Lo
      else if byt T n p = 40 then rdM T n f true (p + 1) ns (40 :: W) Lo
      else (match opd T n p with
        | .inl q => (none, q)
        | .inr (q, x) => rdM T n f false q (ng (ns ++ [x]) W (ns.length :: Lo)).1 (ng (ns ++ [x]) W (ns.length :: Lo)).2.1 (ng (ns ++ [x]) W (ns.length :: Lo)).2.2))
    else if byt T n p = 58 ∨ byt T n p = 37 then (if opn W = 0 then (some (jn ns W Lo true).1, p) else (none, p))
    else if byt T n p = 38 then rdM T n f true (p + 1) (jn ns W Lo false).1 (38 :: (jn ns W Lo false).2.1) (jn ns W Lo false).2.2
    else if byt T n p = 124 then rdM T n f true (p + 1) (jn ns W Lo true).1 (124 :: (jn ns W Lo true).2.1) (jn ns W Lo true).2.2
    else if byt T n p = 41 ∧ opn W ≠ 0 then rdM T n f false (p + 1) (ng (jn ns W Lo true).1 (jn ns W Lo true).2.1.tail (jn ns W Lo true).2.2).1 (ng (jn ns W Lo true).1 (jn ns W Lo true).2.1.tail (jn ns W Lo true).2.2).2.1 (ng (jn ns W Lo true).1 (jn ns W Lo true).2.1.tail (jn ns W Lo true).2.2).2.2
    else (none, p)
theorem opd_gt {T : Nat → Int32} {n p q : Nat} {x : Nd} (hp : p ≤ n) (h : opd T n p = .inr (q, x)) : p < q := ((opd_ok hp).2 q x h).1
theorem rdM_f {T : Nat → Int32} {n : Nat} : ∀ (f g : Nat) (due : Bool) (p : Nat) (ns : List Nd) (W Lo : List Nat), n + 1 ≤ f + p → n + 1 ≤ g + p → rdM T n f due p ns W Lo = rdM T n g due p ns W Lo := by
  intro f
  induction f with
  | zero =>
    intro g due p ns W Lo h1 h2
    cases g with
    | zero => rfl
    | succ g => unfold rdM; rw [if_pos (by omega)]
  | succ f ih =>
    intro g due p ns W Lo h1 h2
    cases g with
    | zero => unfold rdM; rw [if_pos (by omega)]
    | succ g =>
      unfold rdM
      by_cases hp : n ≤ p
      · rw [if_pos hp, if_pos hp]
      · rw [if_neg hp, if_neg hp]
        rw [ih g true (p + 1) ns (33 :: W) Lo (by omega) (by omega), ih g true (p + 1) ns (40 :: W) Lo (by omega) (by omega), ih g true (p + 1) _ (38 :: (jn ns W Lo false).2.1) _ (by omega) (by omega), ih g true (p + 1) _ (124 :: (jn ns W Lo true).2.1) _ (by omega) (by omega), ih g false (p + 1) (ng (jn ns W Lo true).1 (jn ns W Lo true).2.1.tail (jn ns W Lo true).2.2).1 _ _ (by omega) (by omega)]
        cases ho : opd T n p with
        | inl q => rfl
        | inr r =>
          obtain ⟨q, x⟩ := r
          have := opd_gt (by omega) ho
          dsimp only
          rw [ih g false q _ _ _ (by omega) (by omega)]
/-- the machine with fuel enough -/
def RM (T : Nat → Int32) (n : Nat) (due : Bool) (p : Nat) (ns : List Nd) (W Lo : List Nat) : Option (List Nd) × Nat := rdM T n (n + 1) due p ns W Lo
/-- behind something whole -/
def QM (T : Nat → Int32) (n p : Nat) (ns : List Nd) (W Lo : List Nat) : Option (List Nd) × Nat := RM T n false p (ng ns W Lo).1 (ng ns W Lo).2.1 (ng ns W Lo).2.2
theorem RM_s {T : Nat → Int32} {n : Nat} {due : Bool} {p : Nat} {ns : List Nd} {W Lo : List Nat} : RM T n due p ns W Lo = (if n ≤ p then (none, p) else
    if due = true then
      (if byt T n p = 33 then RM T n true (p + 1) ns (33 :: W) Lo
      else if byt T n p = 40 then RM T n true (p + 1) ns (40 :: W) Lo
      else (match opd T n p with
        | .inl q => (none, q)
        | .inr (q, x) => QM T n q (ns ++ [x]) W (ns.length :: Lo)))
    else if byt T n p = 58 ∨ byt T n p = 37 then (if opn W = 0 then (some (jn ns W Lo true).1, p) else (none, p))
    else if byt T n p = 38 then RM T n true (p + 1) (jn ns W Lo false).1 (38 :: (jn ns W Lo false).2.1) (jn ns W Lo false).2.2
    else if byt T n p = 124 then RM T n true (p + 1) (jn ns W Lo true).1 (124 :: (jn ns W Lo true).2.1) (jn ns W Lo true).2.2
    else if byt T n p = 41 ∧ opn W ≠ 0 then QM T n (p + 1) (jn ns W Lo true).1 (jn ns W Lo true).2.1.tail (jn ns W Lo true).2.2
    else (none, p)) := by
  have e : ∀ due p ns W Lo, 1 ≤ p → rdM T n n due p ns W Lo = RM T n due p ns W Lo := fun due p ns W Lo h => rdM_f _ _ _ _ _ _ _ (by omega) (by omega)
  unfold QM
  rw [show RM T n due p ns W Lo = rdM T n (n + 1) due p ns W Lo from rfl]
  unfold rdM
  rw [e true (p + 1) ns (33 :: W) Lo (by omega), e true (p + 1) ns (40 :: W) Lo (by omega), e true (p + 1) _ (38 :: _) _ (by omega), e true (p + 1) _ (124 :: _) _ (by omega), e false (p + 1) _ _ _ (by omega)]
  by_cases hp : n ≤ p
  · rw [if_pos hp, if_pos hp]
  · rw [if_neg hp, if_neg hp]
    cases ho : opd T n p with
    | inl q => rfl
    | inr r =>
      obtain ⟨q, x⟩ := r
      have := opd_gt (by omega) ho
      dsimp only
      rw [e false q _ _ _ (by omega)]
theorem QM_n {T : Nat → Int32} {n p t : Nat} {ns : List Nd} {W Lo : List Nat} : QM T n p ns (33 :: W) (t :: Lo) = QM T n p (ns ++ [(3, t, 0, 0)]) W (ns.length :: Lo) := by
  unfold QM
  rw [show ng ns (33 :: W) (t :: Lo) = ng (ns ++ [(3, t, 0, 0)]) W (ns.length :: Lo) from rfl]
theorem QM_o {T : Nat → Int32} {n p : Nat} {ns : List Nd} {W Lo : List Nat} (h : W.headD 0 ≠ 33) : QM T n p ns W Lo = RM T n false p ns W Lo := by
  unfold QM
  cases W with
  | nil => rfl
  | cons s W =>
    have h2 : ¬ s = 33 := h
    unfold ng
    rw [if_neg h2]
theorem jn_s {ns : List Nd} {W Lo : List Nat} {a b : Nat} {e : Bool} : jn ns (38 :: W) (b :: a :: Lo) e = jn (ns ++ [(7, a, b, 0)]) W (ns.length :: Lo) e := by
  rw [show jn ns (38 :: W) (b :: a :: Lo) e = (if 38 = 38 ∨ (e = true ∧ 38 = 124) then jn (ns ++ [(if 38 = 38 then 7 else 8, a, b, 0)]) W (ns.length :: Lo) e else (ns, 38 :: W, b :: a :: Lo)) from rfl, if_pos (Or.inl rfl)]
  rfl
theorem jn_e {ns : List Nd} {W Lo : List Nat} {a b : Nat} : jn ns (124 :: W) (b :: a :: Lo) true = jn (ns ++ [(8, a, b, 0)]) W (ns.length :: Lo) true := by
  rw [show jn ns (124 :: W) (b :: a :: Lo) true = (if 124 = 38 ∨ (true = true ∧ 124 = 124) then jn (ns ++ [(if 124 = 38 then 7 else 8, a, b, 0)]) W (ns.length :: Lo) true else (ns, 124 :: W, b :: a :: Lo)) from rfl, if_pos (Or.inr ⟨rfl, rfl⟩)]
  rfl
theorem jn_0 {ns : List Nd} {W Lo : List Nat} {e : Bool} (h : W.headD 0 ≠ 38) (h2 : e = true → W.headD 0 ≠ 124) : jn ns W Lo e = (ns, W, Lo) := by
  cases W with
  | nil => rfl
  | cons s W =>
    have h3 : ¬ s = 38 := h
    have h4 : e = true → ¬ s = 124 := h2
    unfold jn
    rw [if_neg (fun z => by
      rcases z with z | z
      · exact h3 z
      · exact h4 z.1 z.2)]
theorem RM_J1 {T : Nat → Int32} {n p a b : Nat} {ns : List Nd} {W Lo : List Nat} : RM T n false p ns (38 :: W) (b :: a :: Lo) = RM T n false p (ns ++ [(7, a, b, 0)]) W (ns.length :: Lo) := by
  rw [RM_s, RM_s (ns := ns ++ [(7, a, b, 0)])]
  rw [jn_s, jn_s, show opn (38 :: W) = opn W by rw [opn_c, if_neg (by decide), Nat.zero_add]]
  by_cases hq : n ≤ p
  · rw [if_pos hq, if_pos hq]
  · rw [if_neg hq, if_neg hq, if_neg (show ¬ (false = true) by decide), if_neg (show ¬ (false = true) by decide)]
theorem RM_J2 {T : Nat → Int32} {n p a b : Nat} {ns : List Nd} {W Lo : List Nat} (h : byt T n p ≠ 38) : RM T n false p ns (124 :: W) (b :: a :: Lo) = RM T n false p (ns ++ [(8, a, b, 0)]) W (ns.length :: Lo) := by
  rw [RM_s, RM_s (ns := ns ++ [(8, a, b, 0)])]
  rw [jn_e, show opn (124 :: W) = opn W by rw [opn_c, if_neg (by decide), Nat.zero_add]]
  by_cases hq : n ≤ p
  · rw [if_pos hq, if_pos hq]
  · rw [if_neg hq, if_neg hq, if_neg (show ¬ (false = true) by decide), if_neg (show ¬ (false = true) by decide), if_neg h, if_neg h]
/-- what the machine makes of what recursive descent tells -/
def MR (T : Nat → Int32) (n tag a p : Nat) (ns : List Nd) (r : Option Nat × Nat × List Nd) : Prop :=
  (tag = 0 → ∀ W Lo, RM T n true p ns W Lo = (match r with | (none, q, _) => (none, q) | (some t, q, m) => QM T n q m W (t :: Lo))) ∧
  (tag = 1 → (∀ W Lo, W.headD 0 ≠ 33 → W.headD 0 ≠ 38 → RM T n true p ns W Lo = (match r with | (none, q, _) => (none, q) | (some t, q, m) => RM T n false q m W (t :: Lo))) ∧ (r.1 ≠ none → byt T n r.2.1 ≠ 38)) ∧
  (tag = 2 → (∀ W Lo, W.headD 0 ≠ 33 → W.headD 0 ≠ 38 → RM T n false p ns W (a :: Lo) = (match r with | (none, q, _) => (none, q) | (some t, q, m) => RM T n false q m W (t :: Lo))) ∧ (r.1 ≠ none → byt T n r.2.1 ≠ 38)) ∧
  (tag = 3 → (∀ W Lo, W.headD 0 ≠ 33 → W.headD 0 ≠ 38 → W.headD 0 ≠ 124 → RM T n true p ns W Lo = (match r with | (none, q, _) => (none, q) | (some t, q, m) => RM T n false q m W (t :: Lo))) ∧ (r.1 ≠ none → byt T n r.2.1 ≠ 38 ∧ byt T n r.2.1 ≠ 124)) ∧
  (tag = 4 → byt T n p ≠ 38 → (∀ W Lo, W.headD 0 ≠ 33 → W.headD 0 ≠ 38 → W.headD 0 ≠ 124 → RM T n false p ns W (a :: Lo) = (match r with | (none, q, _) => (none, q) | (some t, q, m) => RM T n false q m W (t :: Lo))) ∧ (r.1 ≠ none → byt T n r.2.1 ≠ 38 ∧ byt T n r.2.1 ≠ 124))
theorem rdP_M {T : Nat → Int32} {n : Nat} : ∀ (f tag a p : Nat) (ns : List Nd), p ≤ n → NV ns → ((tag = 2 ∨ 4 ≤ tag) → a < ns.length) → FU tag (n - p) ≤ f → MR T n tag a p ns (rdP T n f tag a p ns) := by
  intro f
  induction f with
  | zero => intro tag a p ns hp hn _ hf; unfold FU at hf; repeat' split at hf
            all_goals omega
  | succ f ih =>
    intro tag a p ns hp hn ha hf
    have lp : ∀ c : Int, c ≠ -1 → byt T n p = c → p + 1 ≤ n := fun c h1 h2 => byt_lt (by rw [h2]; exact h1)
    refine ⟨fun ht W Lo => ?_, fun ht => ?_, fun ht => ?_, fun ht => ?_, fun ht hb => ?_⟩
    · subst ht
      have hf0 : 4 * (n - p) + 1 ≤ f + 1 := hf
      unfold rdP
      rw [if_pos rfl]
      by_cases c1 : byt T n p = 33
      · have hl := lp 33 (by decide) c1
        rw [if_pos c1, RM_s, if_neg (by omega), if_pos rfl, if_pos c1]
        have h := (ih 0 0 (p + 1) ns hl hn (fun h => by omega) (by show 4 * (n - (p + 1)) + 1 ≤ f; omega)).1 rfl (33 :: W) Lo
        rw [h]
        cases rdP T n f 0 0 (p + 1) ns with
        | mk o r =>
          obtain ⟨q, m⟩ := r
          cases o with
          | none => rfl
          | some t => exact QM_n
      · rw [if_neg c1]
        by_cases c2 : byt T n p = 40
        · have hl := lp 40 (by decide) c2
          rw [if_pos c2, RM_s, if_neg (by omega), if_pos rfl, if_neg c1, if_pos c2]
          have hk := rdP_ok (T := T) (n := n) f 3 0 (p + 1) ns hl hn (fun h => by omega)
          have h := (ih 3 0 (p + 1) ns hl hn (fun h => by omega) (by show 4 * (n - (p + 1)) + 4 ≤ f; omega)).2.2.2.1 rfl
          have h1 := h.1 (40 :: W) Lo (by show (40 : Nat) ≠ 33; decide) (by show (40 : Nat) ≠ 38; decide) (by show (40 : Nat) ≠ 124; decide)
          rw [h1]
          have h2 := h.2
          cases hr : rdP T n f 3 0 (p + 1) ns with
          | mk o r =>
            obtain ⟨q, m⟩ := r
            rw [hr] at h2 hk
            cases o with
            | none => rfl
            | some t =>
              have h3 := h2 (by simp)
              dsimp only at h3 ⊢
              have hj : jn m (40 :: W) (t :: Lo) true = (m, 40 :: W, t :: Lo) := jn_0 (by show (40 : Nat) ≠ 38; decide) (fun _ => by show (40 : Nat) ≠ 124; decide)
              have ho : ¬ opn (40 :: W) = 0 := by rw [opn_c, if_pos rfl]; omega
              by_cases c3 : byt T n q = 41
              · have hl3 := byt_lt (show byt T n q ≠ -1 by omega)
                rw [if_pos c3, RM_s, if_neg (by omega), if_neg (by decide), if_neg (by omega), if_neg (by omega), if_neg (by omega), if_pos ⟨c3, ho⟩, hj]
                rfl
              · rw [if_neg c3, RM_s]
                by_cases hq : n ≤ q
                · rw [if_pos hq]
                · rw [if_neg hq, if_neg (by decide)]
                  by_cases c4 : byt T n q = 58 ∨ byt T n q = 37
                  · rw [if_pos c4, if_neg ho]
                  · rw [if_neg c4, if_neg h3.1, if_neg h3.2, if_neg (fun z => c3 z.1)]
        · rw [if_neg c2, RM_s]
          by_cases hpn : n ≤ p
          · rw [if_pos hpn]
            have hb : byt T n p = -1 := by unfold byt; rw [if_neg (by omega)]
            have : opd T n p = .inl p := by unfold opd; rw [if_neg (by omega), if_neg (by omega), if_neg (by omega)]
            rw [this]
          · rw [if_neg hpn, if_pos rfl, if_neg c1, if_neg c2]
            cases opd T n p with
            | inl q => rfl
            | inr r => rfl
    · subst ht
      have hf0 : 4 * (n - p) + 3 ≤ f + 1 := hf
      unfold rdP
      rw [if_neg (by decide), if_pos rfl]
      have hk := rdP_ok (T := T) (n := n) f 0 0 p ns hp hn (fun h => by omega)
      have h := (ih 0 0 p ns hp hn (fun h => by omega) (by show 4 * (n - p) + 1 ≤ f; omega)).1 rfl
      cases hr : rdP T n f 0 0 p ns with
      | mk o r =>
        obtain ⟨q, m⟩ := r
        rw [hr] at h hk
        obtain ⟨k1, k2, k3, k4, k5, k6⟩ := hk
        cases o with
        | none => exact ⟨fun W Lo _ _ => h W Lo, fun z => absurd rfl z⟩
        | some t =>
          dsimp only at h k1 k2 k3 ⊢
          have g := (ih 2 t q m k2 k3 (fun _ => k6 t rfl) (by show 4 * (n - q) + 2 ≤ f; omega)).2.2.1 rfl
          exact ⟨fun W Lo w1 w2 => by rw [h W Lo, QM_o w1]; exact g.1 W Lo w1 w2, g.2⟩
    · subst ht
      have hf0 : 4 * (n - p) + 2 ≤ f + 1 := hf
      unfold rdP
      rw [if_neg (by decide), if_neg (by decide), if_pos rfl]
      by_cases c : byt T n p = 38
      · have hl := lp 38 (by decide) c
        rw [if_pos c]
        have hk := rdP_ok (T := T) (n := n) f 0 0 (p + 1) ns hl hn (fun h => by omega)
        have h := (ih 0 0 (p + 1) ns hl hn (fun h => by omega) (by show 4 * (n - (p + 1)) + 1 ≤ f; omega)).1 rfl
        have st : ∀ W Lo, W.headD 0 ≠ 38 → RM T n false p ns W (a :: Lo) = RM T n true (p + 1) ns (38 :: W) (a :: Lo) := fun W Lo w => by
          rw [RM_s, if_neg (by omega), if_neg (by decide), if_neg (by omega), if_pos c, jn_0 w (fun z => by cases z)]
        cases hr : rdP T n f 0 0 (p + 1) ns with
        | mk o r =>
          obtain ⟨q, m⟩ := r
          rw [hr] at h hk
          obtain ⟨k1, k2, k3, k4, k5, k6⟩ := hk
          cases o with
          | none => exact ⟨fun W Lo _ w2 => by rw [st W Lo w2]; exact h _ _, fun z => absurd rfl z⟩
          | some t =>
            dsimp only at h k1 k2 k3 k4 ⊢
            have ht := k6 t rfl
            have ha2 := ha (Or.inl rfl)
            have hv : NV (m ++ [(7, a, t, 0)]) := k3.add ⟨by dsimp only; omega, fun _ => by dsimp only; omega, fun _ => ht, fun z => by dsimp only at z; omega, fun z => by dsimp only at z; omega⟩
            have g := (ih 2 m.length q (m ++ [(7, a, t, 0)]) k2 hv (fun _ => by rw [List.length_append, List.length_singleton]; omega) (by show 4 * (n - q) + 2 ≤ f; omega)).2.2.1 rfl
            refine ⟨fun W Lo w1 w2 => ?_, g.2⟩
            rw [st W Lo w2, h, QM_o (by show (38 : Nat) ≠ 33; decide), RM_J1]
            exact g.1 W Lo w1 w2
      · rw [if_neg c]; exact ⟨fun W Lo _ _ => rfl, fun _ => c⟩
    · subst ht
      have hf0 : 4 * (n - p) + 4 ≤ f + 1 := hf
      unfold rdP
      rw [if_neg (by decide), if_neg (by decide), if_neg (by decide), if_pos rfl]
      have hk := rdP_ok (T := T) (n := n) f 1 0 p ns hp hn (fun h => by omega)
      have h := (ih 1 0 p ns hp hn (fun h => by omega) (by show 4 * (n - p) + 3 ≤ f; omega)).2.1 rfl
      cases hr : rdP T n f 1 0 p ns with
      | mk o r =>
        obtain ⟨q, m⟩ := r
        rw [hr] at h hk
        obtain ⟨k1, k2, k3, k4, k5, k6⟩ := hk
        cases o with
        | none => exact ⟨fun W Lo w1 w2 _ => h.1 W Lo w1 w2, fun z => absurd rfl z⟩
        | some t =>
          dsimp only at h k1 k2 k3 ⊢
          have g := (ih 4 t q m k2 k3 (fun _ => k6 t rfl) (by show 4 * (n - q) + 2 ≤ f; omega)).2.2.2.2 rfl (h.2 (by simp))
          exact ⟨fun W Lo w1 w2 w3 => by rw [h.1 W Lo w1 w2]; exact g.1 W Lo w1 w2 w3, g.2⟩
    · subst ht
      have hf0 : 4 * (n - p) + 2 ≤ f + 1 := hf
      unfold rdP
      rw [if_neg (by decide), if_neg (by decide), if_neg (by decide), if_neg (by decide)]
      by_cases c : byt T n p = 124
      · have hl := lp 124 (by decide) c
        rw [if_pos c]
        have hk := rdP_ok (T := T) (n := n) f 1 0 (p + 1) ns hl hn (fun h => by omega)
        have h := (ih 1 0 (p + 1) ns hl hn (fun h => by omega) (by show 4 * (n - (p + 1)) + 3 ≤ f; omega)).2.1 rfl
        have st : ∀ W Lo, W.headD 0 ≠ 38 → W.headD 0 ≠ 124 → RM T n false p ns W (a :: Lo) = RM T n true (p + 1) ns (124 :: W) (a :: Lo) := fun W Lo w w2 => by
          rw [RM_s, if_neg (by omega), if_neg (by decide), if_neg (by omega), if_neg (by omega), if_pos c, jn_0 w (fun _ => w2)]
        cases hr : rdP T n f 1 0 (p + 1) ns with
        | mk o r =>
          obtain ⟨q, m⟩ := r
          rw [hr] at h hk
          obtain ⟨k1, k2, k3, k4, k5, k6⟩ := hk
          cases o with
          | none => exact ⟨fun W Lo _ w2 w3 => by rw [st W Lo w2 w3]; exact h.1 _ _ (by show (124 : Nat) ≠ 33; decide) (by show (124 : Nat) ≠ 38; decide), fun z => absurd rfl z⟩
          | some t =>
            dsimp only at h k1 k2 k3 k4 ⊢
            have ht := k6 t rfl
            have ha2 := ha (Or.inr (by decide))
            have hb2 := h.2 (by simp)
            have hv : NV (m ++ [(8, a, t, 0)]) := k3.add ⟨by dsimp only; omega, fun _ => by dsimp only; omega, fun _ => ht, fun z => by dsimp only at z; omega, fun z => by dsimp only at z; omega⟩
            have g := (ih 4 m.length q (m ++ [(8, a, t, 0)]) k2 hv (fun _ => by rw [List.length_append, List.length_singleton]; omega) (by show 4 * (n - q) + 2 ≤ f; omega)).2.2.2.2 rfl hb2
            refine ⟨fun W Lo w1 w2 w3 => ?_, g.2⟩
            rw [st W Lo w2 w3, h.1 _ _ (by show (124 : Nat) ≠ 33; decide) (by show (124 : Nat) ≠ 38; decide), RM_J2 hb2]
            exact g.1 W Lo w1 w2 w3
      · rw [if_neg c]; exact ⟨fun W Lo _ _ _ => rfl, fun _ => ⟨hb, c⟩⟩
/-- a condition from the tape's start on -/
def rdC (T : Nat → Int32) (n : Nat) : Option Nat × Nat × List Nd := rdP T n (4 * n + 4) 3 0 0 []
theorem rdC_M {T : Nat → Int32} {n : Nat} : RM T n true 0 [] [] [] = (match rdC T n with
    | (none, q, _) => (none, q)
    | (some _, q, m) => if byt T n q = 58 ∨ byt T n q = 37 then (some m, q) else (none, q)) ∧ RDok n 0 0 (rdC T n) := by
  have hk := rdP_ok (T := T) (n := n) (4 * n + 4) 3 0 0 [] (Nat.zero_le _) NV.nil (fun h => by omega)
  have h := (rdP_M (T := T) (n := n) (4 * n + 4) 3 0 0 [] (Nat.zero_le _) NV.nil (fun h => by omega) (by show 4 * (n - 0) + 4 ≤ 4 * n + 4; omega)).2.2.2.1 rfl
  refine ⟨?_, hk⟩
  rw [h.1 [] [] (by decide) (by decide) (by decide)]
  have h2 := h.2
  unfold rdC
  cases hr : rdP T n (4 * n + 4) 3 0 0 [] with
  | mk o r =>
    obtain ⟨q, m⟩ := r
    rw [hr] at h2
    cases o with
    | none => rfl
    | some t =>
      have h3 := h2 (by simp)
      dsimp only at h3 ⊢
      rw [RM_s]
      by_cases hq : n ≤ q
      · have hb : byt T n q = -1 := by unfold byt; rw [if_neg (by omega)]
        rw [if_pos hq, if_neg (by omega)]
      · rw [if_neg hq, if_neg (by decide)]
        by_cases c : byt T n q = 58 ∨ byt T n q = 37
        · rw [if_pos c, if_pos c]; rfl
        · rw [if_neg c, if_neg c, if_neg h3.1, if_neg h3.2, if_neg (fun z => z.2 rfl)]
