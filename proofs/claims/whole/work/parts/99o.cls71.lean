/-! SPELLED: what a parse tells of lengths and postfix -/
def RL (ns ms : List Nd) : Prop := ∀ j, j < ns.length → nd ms j = nd ns j
theorem br_le {ns : List Nd} {t : Nat} : br1 ns t ≤ br0 ns t ∧ br0 ns t ≤ 2 := by
  unfold br1 br0
  by_cases a : (nd ns t).1 = 8
  · rw [if_pos a, if_pos (by omega)]; omega
  · rw [if_neg a]; by_cases b : 7 ≤ (nd ns t).1 <;> (first | rw [if_pos b] | rw [if_neg b]) <;> omega
theorem br_p {ns ms : List Nd} (h : RL ns ms) {t : Nat} (ht : t < ns.length) : br0 ms t = br0 ns t ∧ br1 ms t = br1 ns t := by unfold br0 br1; rw [h t ht]; exact ⟨rfl, rfl⟩
theorem opd_l {T : Nat → Int32} {n p q : Nat} {x : Nd} (hp : p ≤ n) (h : opd T n p = .inr (q, x)) : (x.1 = 4 ∧ p + 1 ≤ q) ∨ (x.1 = 5 ∧ p + 3 ≤ q) ∨ (x.1 = 6 ∧ p + (2 + dgN x.2.1 + dgN x.2.2.1) ≤ q) := by
  unfold opd at h
  by_cases c1 : byt T n p = 42
  · rw [if_pos c1] at h; cases h; exact Or.inl ⟨rfl, Nat.le_refl _⟩
  · rw [if_neg c1] at h
    by_cases c2 : byt T n p = 35
    · rw [if_pos c2] at h
      have hl := byt_lt (T := T) (n := n) (p := p) (by omega)
      rcases h1 : nmb T n 6 (p + 1) 0 999999 with _ | ⟨e, lo⟩
      · rw [h1] at h; cases h
      · rw [h1] at h
        dsimp only at h
        have g1 := nmb_d (by omega) h1
        by_cases c3 : byt T n e = 45
        · rw [if_pos c3] at h
          have hl2 := byt_lt (T := T) (n := n) (p := e) (by omega)
          rcases h2 : nmb T n 6 (e + 1) lo 999999 with _ | ⟨e2, hi⟩
          · rw [h2] at h; cases h
          · rw [h2] at h
            have g2 := nmb_d (by omega) h2
            cases h
            refine Or.inr (Or.inr ⟨rfl, ?_⟩)
            show p + (2 + dgN lo + dgN hi) ≤ _
            omega
        · rw [if_neg c3] at h; cases h
    · rw [if_neg c2] at h
      by_cases c4 : 97 ≤ byt T n p ∧ byt T n p ≤ 100
      · rw [if_pos c4] at h
        by_cases c5 : byt T n (p + 1) = 60 ∨ byt T n (p + 1) = 61 ∨ byt T n (p + 1) = 62
        · rw [if_pos c5] at h
          have hl2 := byt_lt (T := T) (n := n) (p := p + 1) (by omega)
          rcases h1 : nmb T n 1 (p + 2) 0 9 with _ | ⟨e, v⟩
          · rw [h1] at h; cases h
          · rw [h1] at h
            have g1 := nmb_p (by omega) h1
            cases h
            exact Or.inr (Or.inl ⟨rfl, by omega⟩)
        · rw [if_neg c5] at h; cases h
      · rw [if_neg c4] at h; cases h
/-- what a parse tells of postfix and lengths -/
def RDL (ns : List Nd) (lo e0 : Nat) (br : List Nd → Nat → Nat) (p t q : Nat) (m : List Nd) : Prop := RL ns m ∧ PF m lo t ∧ lo ≤ t ∧ ln m t + br m t + p ≤ q + e0
theorem rdP_l {T : Nat → Int32} {n : Nat} : ∀ (f p : Nat) (ns : List Nd) (t q : Nat) (m : List Nd), p ≤ n → NV ns →
    (rdP T n f 0 0 p ns = (some t, q, m) → RDL ns ns.length 0 br0 p t q m) ∧
    (rdP T n f 1 0 p ns = (some t, q, m) → RDL ns ns.length 0 br1 p t q m) ∧
    (rdP T n f 3 0 p ns = (some t, q, m) → RDL ns ns.length 0 (fun _ _ => 0) p t q m) ∧
    (∀ lo a, PF ns lo a → lo ≤ a → a + 1 = ns.length → rdP T n f 2 a p ns = (some t, q, m) → RDL ns lo (ln ns a + br1 ns a) br1 p t q m) ∧
    ∀ lo a, PF ns lo a → lo ≤ a → a + 1 = ns.length → rdP T n f 4 a p ns = (some t, q, m) → RDL ns lo (ln ns a) (fun _ _ => 0) p t q m := by
  intro f
  induction f with
  | zero =>
    intro p ns t q m _ _
    have e : ∀ tag a, rdP T n 0 tag a p ns = (none, p, ns) := fun tag a => by rw [rdP.eq_1]
    refine ⟨fun h => ?_, fun h => ?_, fun h => ?_, fun lo a _ _ _ h => ?_, fun lo a _ _ _ h => ?_⟩ <;> (rw [e] at h; cases h)
  | succ f ih =>
    intro p ns t q m hp hv
    have lp : ∀ c : Int, c ≠ -1 → byt T n p = c → p + 1 ≤ n := fun c h1 h2 => byt_lt (by rw [h2]; exact h1)
    have seq : ∀ (tg tg2 : Nat) (br bq : List Nd → Nat → Nat), (∀ t q m, rdP T n f tg 0 p ns = (some t, q, m) → RDL ns ns.length 0 br p t q m) → tg < 2 →
        (∀ t1 q1 m1, q1 ≤ n → NV m1 → ∀ lo, PF m1 lo t1 → lo ≤ t1 → t1 + 1 = m1.length → rdP T n f tg2 t1 q1 m1 = (some t, q, m) → RDL m1 lo (ln m1 t1 + br m1 t1) bq q1 t q m) →
        (match rdP T n f tg 0 p ns with | (none, q, m) => (none, q, m) | (some t, q, m) => rdP T n f tg2 t q m) = (some t, q, m) → RDL ns ns.length 0 bq p t q m := by
      intro tg tg2 br bq h1 h2 h3 h4
      have hk := rdP_ok (T := T) (n := n) f tg 0 p ns hp hv (fun z => by omega)
      rcases hr : rdP T n f tg 0 p ns with ⟨_ | t1, q1, m1⟩
      · rw [hr] at h4; cases h4
      · rw [hr] at h4 hk
        obtain ⟨k1, k2, k3, k4, k5, k6⟩ := hk
        dsimp only at k1 k2 k3 k4 k5
        have hl := rdP_last _ _ _ _ _ (fun z => by omega) _ _ _ hr
        obtain ⟨a1, a2, a3, a4⟩ := h1 _ _ _ hr
        obtain ⟨b1, b2, b3, b4⟩ := h3 t1 q1 m1 k2 k3 ns.length a2 a3 hl h4
        exact ⟨fun j hj => (b1 j (by omega)).trans (a1 j hj), b2, b3, by omega⟩
    have two : ∀ (tg tg2 kd lo a : Nat) (br bq : List Nd → Nat → Nat) (e0 : Nat), (kd = 7 ∨ kd = 8) → p + 1 ≤ n → PF ns lo a → lo ≤ a → a + 1 = ns.length → tg < 2 →
        (∀ t q m, rdP T n f tg 0 (p + 1) ns = (some t, q, m) → RDL ns ns.length 0 br (p + 1) t q m) →
        (∀ q1 m2, q1 ≤ n → NV m2 → ∀ a2, PF m2 lo a2 → lo ≤ a2 → a2 + 1 = m2.length → rdP T n f tg2 a2 q1 m2 = (some t, q, m) → RDL m2 lo (ln m2 a2 + bq m2 a2) bq q1 t q m) →
        (∀ t1 m1, NV m1 → RL ns m1 → a < m1.length → t1 < m1.length → NV (m1 ++ [(kd, a, t1, 0)]) → ln (m1 ++ [(kd, a, t1, 0)]) m1.length + bq (m1 ++ [(kd, a, t1, 0)]) m1.length = 1 + e0 + (ln m1 t1 + br m1 t1)) →
        (match rdP T n f tg 0 (p + 1) ns with | (none, q, m) => (none, q, m) | (some t, q, m) => rdP T n f tg2 m.length q (m ++ [(kd, a, t, 0)])) = (some t, q, m) → RDL ns lo e0 bq p t q m := by
      intro tg tg2 kd lo a br bq e0 hkd hp1 hpf hlo ha htg h1 h2 h3 h4
      have hk := rdP_ok (T := T) (n := n) f tg 0 (p + 1) ns hp1 hv (fun z => by omega)
      rcases hr : rdP T n f tg 0 (p + 1) ns with ⟨_ | t1, q1, m1⟩
      · rw [hr] at h4; cases h4
      · rw [hr] at h4 hk
        obtain ⟨k1, k2, k3, k4, k5, k6⟩ := hk
        dsimp only at k1 k2 k3 k4 k5
        have ht1 := k6 t1 rfl
        dsimp only at ht1
        have hl := rdP_last _ _ _ _ _ (fun z => by omega) _ _ _ hr
        obtain ⟨a1, a2, a3, a4⟩ := h1 _ _ _ hr
        have hv2 : NV (m1 ++ [(kd, a, t1, 0)]) := k3.add ⟨by dsimp only; omega, fun _ => by dsimp only; omega, fun _ => ht1, fun z => by dsimp only at z; omega, fun z => by dsimp only at z; omega⟩
        have hpf2 : PF (m1 ++ [(kd, a, t1, 0)]) lo m1.length := PF.two hkd (hpf.p a1 (by omega)) (by rw [ha]; exact a2) hl hlo (by omega)
        obtain ⟨b1, b2, b3, b4⟩ := h2 q1 _ k2 hv2 _ hpf2 (by omega) (by rw [len_sg]) h4
        have e := h3 t1 m1 k3 a1 (by omega) ht1 hv2
        refine ⟨fun j hj => (b1 j (by rw [len_sg]; omega)).trans ((nd_l (by omega)).trans (a1 j hj)), b2, b3, by omega⟩
    refine ⟨fun h => ?_, fun h => ?_, fun h => ?_, fun lo a h1 h2 h3 h => ?_, fun lo a h1 h2 h3 h => ?_⟩
    · by_cases c1 : byt T n p = 33
      · have hl0 := lp 33 (by decide) c1
        rw [rd0_33 c1] at h
        have hk := rdP_ok (T := T) (n := n) f 0 0 (p + 1) ns hl0 hv (fun z => by omega)
        rcases hr : rdP T n f 0 0 (p + 1) ns with ⟨_ | t1, q1, m1⟩
        · rw [hr] at h; cases h
        · rw [hr] at h hk
          obtain ⟨k1, k2, k3, k4, k5, k6⟩ := hk
          dsimp only at k1 k2 k3 k4 k5
          have ht1 := k6 t1 rfl
          dsimp only at ht1
          have hl := rdP_last _ _ _ _ _ (fun z => by omega) _ _ _ hr
          obtain ⟨a1, a2, a3, a4⟩ := (ih (p + 1) ns t1 q1 m1 hl0 hv).1 hr
          cases h
          have hv2 : NV (m1 ++ [(3, t1, 0, 0)]) := k3.add ⟨by dsimp only; omega, fun _ => ht1, fun z => by dsimp only at z; omega, fun z => by dsimp only at z; omega, fun z => by dsimp only at z; omega⟩
          have rl : RL m1 (m1 ++ [(3, t1, 0, 0)]) := fun j hj => nd_l hj
          refine ⟨fun j hj => (nd_l (by omega)).trans (a1 j hj), PF.one a2 hl a3, by omega, ?_⟩
          rw [ln_eq hv2 (by rw [len_sg]; omega), nd_r, if_pos rfl]
          show 1 + ln (m1 ++ [(3, t1, 0, 0)]) t1 + br0 (m1 ++ [(3, t1, 0, 0)]) t1 + br0 (m1 ++ [(3, t1, 0, 0)]) m1.length + p ≤ _
          rw [ln_p k3 rl ht1, (br_p rl ht1).1, show br0 (m1 ++ [(3, t1, 0, 0)]) m1.length = 0 from by unfold br0; rw [nd_r]; rfl]
          omega
      · by_cases c2 : byt T n p = 40
        · have hl0 := lp 40 (by decide) c2
          rw [rd0_40 c2] at h
          rcases hr : rdP T n f 3 0 (p + 1) ns with ⟨_ | t1, q1, m1⟩
          · rw [hr] at h; cases h
          · rw [hr] at h
            dsimp only at h
            obtain ⟨a1, a2, a3, a4⟩ := (ih (p + 1) ns t1 q1 m1 hl0 hv).2.2.1 hr
            by_cases c3 : byt T n q1 = 41
            · rw [if_pos c3] at h
              cases h
              have := (br_le (ns := m) (t := t)).2
              exact ⟨a1, a2, a3, by omega⟩
            · rw [if_neg c3] at h; cases h
        · rw [rd0_o c1 c2] at h
          rcases ho : opd T n p with q1 | ⟨q1, x1⟩
          · rw [opR_l ho] at h; cases h
          · rw [opR_r ho] at h
            have hx := ((opd_ok hp).2 q1 x1 ho).2.2 ns.length
            have hl := opd_l hp ho
            cases h
            refine ⟨fun j hj => nd_l hj, PF.leaf (by omega) (by omega), Nat.le_refl _, ?_⟩
            have hv2 : NV (ns ++ [x1]) := hv.add hx
            rw [ln_eq hv2 (by rw [len_sg]; omega), nd_r, show br0 (ns ++ [x1]) ns.length = 0 from by unfold br0; rw [nd_r, if_neg (by omega)]]
            rcases hl with ⟨e, l⟩ | ⟨e, l⟩ | ⟨e, l⟩
            · rw [if_neg (by omega), if_pos e]; omega
            · rw [if_neg (by omega), if_neg (by omega), if_pos e]; omega
            · rw [if_neg (by omega), if_neg (by omega), if_neg (by omega), if_pos e]; omega
    · rw [rd1] at h
      exact seq 0 2 br0 br1 (fun t q m hr => (ih p ns t q m hp hv).1 hr) (by decide) (fun t1 q1 m1 g1 g2 lo g3 g4 g5 g6 => by
        obtain ⟨b1, b2, b3, b4⟩ := (ih q1 m1 t q m g1 g2).2.2.2.1 lo t1 g3 g4 g5 g6
        have := (br_le (ns := m1) (t := t1)).1
        exact ⟨b1, b2, b3, by omega⟩) h
    · rw [rd3] at h
      exact seq 1 4 br1 (fun _ _ => 0) (fun t q m hr => (ih p ns t q m hp hv).2.1 hr) (by decide) (fun t1 q1 m1 g1 g2 lo g3 g4 g5 g6 => by
        obtain ⟨b1, b2, b3, b4⟩ := (ih q1 m1 t q m g1 g2).2.2.2.2 lo t1 g3 g4 g5 g6
        exact ⟨b1, b2, b3, by omega⟩) h
    · by_cases c : byt T n p = 38
      · rw [rd2_y c] at h
        exact two 0 2 7 lo a br0 br1 _ (Or.inl rfl) (lp 38 (by decide) c) h1 h2 h3 (by decide) (fun t q m hr => (ih (p + 1) ns t q m (lp 38 (by decide) c) hv).1 hr) (fun q1 m2 g1 g2 a2 g3 g4 g5 g6 => (ih q1 m2 t q m g1 g2).2.2.2.1 lo a2 g3 g4 g5 g6) (fun t1 m1 g1 g2 g3 g4 g5 => by
          have rl : RL m1 (m1 ++ [(7, a, t1, 0)]) := fun j hj => nd_l hj
          rw [ln_eq g5 (by rw [len_sg]; omega), nd_r, if_neg (by dsimp only; omega), if_neg (by dsimp only; omega), if_neg (by dsimp only; omega), if_neg (by dsimp only; omega), if_pos rfl]
          show 1 + (ln _ a + br1 _ a) + (ln _ t1 + br0 _ t1) + br1 _ m1.length = _
          rw [ln_p g1 rl g3, ln_p g1 rl g4, (br_p rl g3).2, (br_p rl g4).1, ln_p hv g2 (by omega), (br_p g2 (by omega)).2, show br1 (m1 ++ [(7, a, t1, 0)]) m1.length = 0 from by unfold br1; rw [nd_r]; rfl]
          omega) h
      · rw [rd2_n c] at h; cases h; exact ⟨fun _ _ => rfl, h1, h2, by omega⟩
    · by_cases c : byt T n p = 124
      · rw [rd4_y c] at h
        exact two 1 4 8 lo a br1 (fun _ _ => 0) _ (Or.inr rfl) (lp 124 (by decide) c) h1 h2 h3 (by decide) (fun t q m hr => (ih (p + 1) ns t q m (lp 124 (by decide) c) hv).2.1 hr) (fun q1 m2 g1 g2 a2 g3 g4 g5 g6 => (ih q1 m2 t q m g1 g2).2.2.2.2 lo a2 g3 g4 g5 g6) (fun t1 m1 g1 g2 g3 g4 g5 => by
          have rl : RL m1 (m1 ++ [(8, a, t1, 0)]) := fun j hj => nd_l hj
          rw [ln_eq g5 (by rw [len_sg]; omega), nd_r, if_neg (by dsimp only; omega), if_neg (by dsimp only; omega), if_neg (by dsimp only; omega), if_neg (by dsimp only; omega), if_neg (by dsimp only; omega)]
          show 1 + ln _ a + (ln _ t1 + br1 _ t1) + 0 = _
          rw [ln_p g1 rl g3, ln_p g1 rl g4, (br_p rl g4).2, ln_p hv g2 (by omega)]
          omega) h
      · rw [rd4_n c] at h; cases h; exact ⟨fun _ _ => rfl, h1, h2, by dsimp only; omega⟩
/-- a condition's nodes: postfix, its text no longer than what was read -/
theorem rdC_l {T : Nat → Int32} {n t q : Nat} {m : List Nd} (h : rdC T n = (some t, q, m)) : PF m 0 t ∧ ln m t ≤ q := by
  obtain ⟨-, h2, -, h4⟩ := (rdP_l (T := T) (n := n) (4 * n + 4) 0 [] t q m (Nat.zero_le _) NV.nil).2.2.1 h
  dsimp only at h4
  exact ⟨h2, by omega⟩
