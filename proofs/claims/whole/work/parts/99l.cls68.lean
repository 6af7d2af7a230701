/-! THE REFERENCE: isAnswer -/
theorem rdP_last {T : Nat → Int32} {n : Nat} : ∀ (f tag a p : Nat) (ns : List Nd), ((tag = 2 ∨ 4 ≤ tag) → a + 1 = ns.length) → ∀ t q m, rdP T n f tag a p ns = (some t, q, m) → t + 1 = m.length := by
  intro f
  induction f with
  | zero => intro tag a p ns _ t q m h; rw [rdP.eq_1] at h; cases h
  | succ f ih =>
    intro tag a p ns ha t q m h
    rw [rdP.eq_2] at h
    by_cases t0 : tag = 0
    · rw [if_pos t0] at h
      by_cases c1 : byt T n p = 33
      · rw [if_pos c1] at h
        rcases hr : rdP T n f 0 0 (p + 1) ns with ⟨_ | t1, q1, m1⟩
        · rw [hr] at h; cases h
        · rw [hr] at h; cases h; rw [len_sg]
      · rw [if_neg c1] at h
        by_cases c2 : byt T n p = 40
        · rw [if_pos c2] at h
          rcases hr : rdP T n f 3 0 (p + 1) ns with ⟨_ | t1, q1, m1⟩
          · rw [hr] at h; cases h
          · rw [hr] at h
            dsimp only at h
            by_cases c3 : byt T n q1 = 41
            · rw [if_pos c3] at h; cases h; exact ih 3 0 (p + 1) ns (fun z => by omega) _ _ _ hr
            · rw [if_neg c3] at h; cases h
        · rw [if_neg c2] at h
          rcases ho : opd T n p with q1 | ⟨q1, x1⟩
          · rw [ho] at h; cases h
          · rw [ho] at h; cases h; rw [len_sg]
    · rw [if_neg t0] at h
      have seq : ∀ (tg tg2 : Nat) (p1 : Nat) (ns1 : List Nd) (g : List Nd → Nat → List Nd) (tt : List Nd → Nat → Nat), tg < 2 → (∀ m1 t1, t1 + 1 = m1.length → tt m1 t1 + 1 = (g m1 t1).length) → (match rdP T n f tg 0 p1 ns1 with | (none, q, m) => (none, q, m) | (some t, q, m) => rdP T n f tg2 (tt m t) q (g m t)) = (some t, q, m) → t + 1 = m.length := by
        intro tg tg2 p1 ns1 g tt h1 h2 h3
        rcases hr : rdP T n f tg 0 p1 ns1 with ⟨_ | t1, q1, m1⟩
        · rw [hr] at h3; cases h3
        · rw [hr] at h3
          exact ih tg2 _ _ _ (fun _ => h2 m1 t1 (ih tg 0 p1 ns1 (fun z => by omega) _ _ _ hr)) _ _ _ h3
      by_cases t1 : tag = 1
      · rw [if_pos t1] at h
        exact seq 0 2 p ns (fun m _ => m) (fun _ t => t) (by decide) (fun m1 t1 e => e) h
      · rw [if_neg t1] at h
        by_cases t2 : tag = 2
        · rw [if_pos t2] at h
          by_cases c : byt T n p = 38
          · rw [if_pos c] at h
            exact seq 0 2 (p + 1) ns (fun m t => m ++ [(7, a, t, 0)]) (fun m _ => m.length) (by decide) (fun m1 t1 e => by rw [len_sg]) h
          · rw [if_neg c] at h; cases h; exact ha (Or.inl t2)
        · rw [if_neg t2] at h
          by_cases t3 : tag = 3
          · rw [if_pos t3] at h
            exact seq 1 4 p ns (fun m _ => m) (fun _ t => t) (by decide) (fun m1 t1 e => e) h
          · rw [if_neg t3] at h
            by_cases c : byt T n p = 124
            · rw [if_pos c] at h
              exact seq 1 4 (p + 1) ns (fun m t => m ++ [(8, a, t, 0)]) (fun m _ => m.length) (by decide) (fun m1 t1 e => by rw [len_sg]) h
            · rw [if_neg c] at h; cases h; exact ha (Or.inr (by omega))
theorem rdC_last {T : Nat → Int32} {n t q : Nat} {m : List Nd} (h : rdC T n = (some t, q, m)) : t + 1 = m.length := rdP_last _ _ _ _ _ (fun z => by omega) _ _ _ h
/-- a store in the shares -/
theorem MS.sr {B : HS} {A0 A : A4} {k0 n p nk : Nat} {T : Nat → Int32} {ns : List Nd} {I K : Nat → Nat → Int32} {R : Nat → Nat → Option Nat} {L : Nat → Nat → Int64} {sh : Nat → Nat × Nat} {N : Nat} {j : Nat} {v : Int32} (h : MS B A0 k0 n T p nk ns A (I, R, L, sh, N)) (e : K = u2 I 771 j v) : MS B A0 k0 n T p nk ns A (K, R, L, sh, N) := by
  obtain ⟨⟨a1, a2, a3⟩, b, c, d, f, g, t, ⟨y1, y2, y3, y4, y5, y6, y7⟩, s, r, z⟩ := h
  obtain ⟨n1, n2, n3, n4⟩ := TNe.ne t.2.2.1 (a := 771) (by omega)
  have er : ∀ a, a ≠ 771 → K a = I a := fun a ha => funext fun j => rd_ne e ha
  dsimp only at a1 a2 a3 b c d f g y1 y2 y3 y4 y5 y6 y7 s r z
  refine ⟨⟨(rd_ne e (by decide)).trans a1, (rd_ne e (by decide)).trans a2, (rd_ne e (by decide)).trans a3⟩, fun i hi => (rd_ne e (by decide)).trans (b i hi), c, d, ?_, ?_, t, ⟨fun a i h1 h2 h3 h4 h5 h6 h7 => (rd_ne e h7).trans (y1 a i h1 h2 h3 h4 h5 h6 h7), fun i h1 h2 h3 => (rd_ne e (by decide)).trans (y2 i h1 h2 h3), y3, y4, y5, y6, y7⟩, s, r, z⟩
  · show NIM (K A.1) (K A.2.1) (K A.2.2.1) (K A.2.2.2) k0 ns
    rw [er _ n1, er _ n2, er _ n3, er _ n4]; exact f
  · intro i hi
    show K A.1 i = _ ∧ K A.2.1 i = _ ∧ K A.2.2.1 i = _ ∧ K A.2.2.2 i = _
    rw [er _ n1, er _ n2, er _ n3, er _ n4]; exact g i hi
theorem MS.row {B : HS} {A0 A : A4} {k0 n p nk : Nat} {T : Nat → Int32} {ns : List Nd} {h : HS} (hm : MS B A0 k0 n T p nk ns A h) {a : Nat} (ha : (a < 766 ∨ (769 < a ∧ a < 781)) ∧ a ≠ 761 ∧ a ≠ 771) (j : Nat) : h.1 a j = B.1 a j := by
  obtain ⟨n1, n2, n3, n4⟩ := TNe.ne (A := A0) hm.2.2.2.2.2.2.1.2.2.2 (a := a) ha.1
  have hz := hm.2.2.2.2.2.2.2.2.2.2
  exact hm.2.2.2.2.2.2.2.1.1 a j (by omega) ha.2.1 n1.symm n2.symm n3.symm n4.symm ha.2.2
def AnM (B : HS) (A0 : A4) (k0 n : Nat) (T : Nat → Int32) (nk : Nat) (ns : List Nd) (A : A4) (r : Option (Nat ⊕ (Nat × Nat × Nat)) × Nat) (x : Option Value) (h2 : HS) : Prop := match r with
  | (none, q) => x = some (.int (nI 0)) ∧ MS B A0 k0 n T q nk ns A h2
  | (some a, q) => x = some (.int (nI 1)) ∧ MS B A0 k0 n T q nk ns A h2 ∧ ∀ k, k < 3 → h2.1 771 k = shO a k
theorem c_M_isAnswer_1 {d : Nat} {B : HS} {A0 A : A4} {k0 n p nk : Nat} {T : Nat → Int32} {ns : List Nd} {I : Nat → Nat → Int32} {R : Nat → Nat → Option Nat} {L : Nat → Nat → Int64} {sh : Nat → Nat × Nat} {N : Nat} (hm : MS B A0 k0 n T p nk ns A (I, R, L, sh, N)) (hn : n ≤ 250) (hp : p ≤ n) (hk0 : k0 ≤ 1000) {F : Nat} (hF : F < 12) (hG : B.1 762 (174 + 84 * F + 0) = nI 1) (hd : 4 ≤ d) : Mt mi_M_isAnswer d 0 0 [.ref 761, .int (nI F)] (I, R, L, sh, N) (fun x h2 => ∃ K, h2 = (K, R, L, sh, N) ∧ AnM B A0 k0 n T nk ns A (anS T n 1 p) x (K, R, L, sh, N)) := by
  obtain ⟨-, -, -, -, -, -, -, -, hS, hR, -⟩ := id hm
  dsimp only at hS hR
  refine Mt.of pn_M (Nat.le_of_ble_eq_true rfl) ?_
  show Run mi_M_isAnswer d 0 0 0 [(0, .ref 761), (1, .int (nI F))] [] (I, R, L, sh, N) _
  refine r_aload_n (x := some 761) (pc2 := 1) d_M_isAnswer_0 rfl rfl ?_
  refine r_bipush (v := nI 58) (pc2 := 3) d_M_isAnswer_1 rfl (by decide) ?_
  by_cases hsg1 : byt T n p = ((58 : Nat) : Int)
  · skip
    have hsg := hsg1
    have hlhsg1 := byt_lt (T := T) (n := n) (p := p) (by omega)
    refine r_callv (M2 := mi_M_isSign) (pc2 := 6) d_M_isAnswer_3 rfl k_M_139 cm_M_isSign cv_M_isSign (sh_761 hS) (by decide) rfl rfl rfl (Nat.le_of_ble_eq_true rfl) (c_M_isSign_y hm hn (by omega) hk0 (c := 58) (by omega) hsg (by omega)) (d2 := d - 1) (by omega) (Nat.le_of_eq (Nat.zero_add _)) (Nat.le_of_eq (Nat.zero_add _)) (fun r2 h2 hq2 => ?_)
    obtain ⟨rfl, Iq2, rfl, hzq2, hmq2⟩ := hq2
    refine q_if_eq (tgt := 56) (A := (1 : Int)) (pc2 := 9) d_M_isAnswer_6 rfl rfl (nI_toInt (by omega)) (fun c3 => ?_) (fun c3 => ?_)
    · exfalso; omega
    refine r_aload_n (x := some 761) (pc2 := 10) d_M_isAnswer_9 rfl rfl ?_
    refine r_iconst (v := nI 1) (pc2 := 11) d_M_isAnswer_10 rfl (by decide) ?_
    refine r_iconst (v := nI 0) (pc2 := 12) d_M_isAnswer_11 rfl (by decide) ?_
    refine r_aload_n (x := some 761) (pc2 := 13) d_M_isAnswer_12 rfl rfl ?_
    refine r_iload_n (pc2 := 14) d_M_isAnswer_13 rfl rfl ?_
    refine r_iconst (v := nI 0) (pc2 := 15) d_M_isAnswer_14 rfl (by decide) ?_
    refine q_callv (M2 := mi_M_of) (pc2 := 18) d_M_isAnswer_15 rfl k_M_76 cm_M_of cv_M_of (sh_761 hS) (by decide) rfl rfl rfl (Nat.le_of_ble_eq_true rfl) (c_M_of (I := Iq2) (F := F) (W := 0) hS hR (by omega)) (d2 := d - 1) (by omega) (Nat.le_of_eq (Nat.zero_add _)) (Nat.le_of_eq (Nat.zero_add _)) ?_
    refine q_top (y := nI 1) ((MS.row hmq2 (a := 762) (by decide) _).trans hG) ?_
    refine r_callv (M2 := mi_M_isNumber) (pc2 := 21) d_M_isAnswer_18 rfl k_M_149 cm_M_isNumber cv_M_isNumber (sh_761 hS) (by decide) rfl rfl rfl (Nat.le_of_ble_eq_true rfl) (c_M_isNumber hmq2 hn (by omega) hk0 (m := 1) (lo := 0) (hi := 1) (by omega) (by omega) (by omega) (by omega)) (d2 := d - 1) (by omega) (Nat.le_of_eq (Nat.zero_add _)) (Nat.le_of_eq (Nat.zero_add _)) (fun r2 h2 hq2 => ?_)
    obtain ⟨Iq4, rfl, hzq4, hxq4⟩ := hq2
    cases hoq4 : nmb T n 1 (p + 1) 0 1 with
    | none =>
      rw [hoq4] at hxq4
      obtain ⟨rfl, hmq4⟩ := hxq4
      refine q_if_ne (tgt := 26) (A := (0 : Int)) (pc2 := 24) d_M_isAnswer_21 rfl rfl (nI_toInt (by omega)) (fun c5 => ?_) (fun c5 => ?_)
      · exfalso; omega
      refine r_iconst (v := nI 0) (pc2 := 25) d_M_isAnswer_24 rfl (by decide) ?_
      refine Run.ret (some (.int (nI 0))) d_M_isAnswer_25 ⟨_, rfl, by decide⟩ ?_
      have e_ : anS T n 1 p = (none, p + 1) := by unfold anS; rw [if_pos (by omega)]; unfold fxA; rw [hoq4]
      exact ⟨_, rfl, by rw [e_]; exact ⟨rfl, hmq4⟩⟩
    | some rq4 =>
      obtain ⟨eq4, vq4⟩ := rq4
      rw [hoq4] at hxq4
      obtain ⟨rfl, hmq4, hvq4⟩ := hxq4
      have hnbq4 := nmb_p (by omega) hoq4
      refine q_if_ne (tgt := 26) (A := (1 : Int)) (pc2 := 24) d_M_isAnswer_21 rfl rfl (nI_toInt (by omega)) (fun c6 => ?_) (fun c6 => ?_)
      rotate_left
      · exfalso; omega
      refine r_aload_n (x := some 761) (pc2 := 27) d_M_isAnswer_26 rfl rfl ?_
      refine q_getR (x := some 771) (pc2 := 30) d_M_isAnswer_27 rfl k_M_37 rfl (sh_761 hS) (rf_761_14 hR) ?_
      refine r_iconst (v := nI 0) (pc2 := 31) d_M_isAnswer_30 rfl (by decide) ?_
      refine r_sipush (v := nI 1000) (pc2 := 34) d_M_isAnswer_31 rfl (by decide) ?_
      refine r_aload_n (x := some 761) (pc2 := 35) d_M_isAnswer_34 rfl rfl ?_
      refine q_getI (x := nI vq4) (pc2 := 38) d_M_isAnswer_35 rfl k_M_122 (by decide) (sh_761 hS) hvq4 ?_
      refine q_iaddN (pc2 := 39) d_M_isAnswer_38 rfl ?_
      refine q_iastore (q := 0) (pc2 := 40) d_M_isAnswer_39 rfl (sh_771 hS) (nI_toInt (by omega)) (by omega) (fun I7 hI7 => ?_)
      have hm8 := MS.sr hmq4 hI7
      refine r_aload_n (x := some 761) (pc2 := 41) d_M_isAnswer_40 rfl rfl ?_
      refine q_getR (x := some 771) (pc2 := 44) d_M_isAnswer_41 rfl k_M_37 rfl (sh_761 hS) (rf_761_14 hR) ?_
      refine r_iconst (v := nI 1) (pc2 := 45) d_M_isAnswer_44 rfl (by decide) ?_
      refine r_iconst (v := nI 0) (pc2 := 46) d_M_isAnswer_45 rfl (by decide) ?_
      refine q_iastore (q := 1) (pc2 := 47) d_M_isAnswer_46 rfl (sh_771 hS) (nI_toInt (by omega)) (by omega) (fun I9 hI9 => ?_)
      have hm10 := MS.sr hm8 hI9
      refine r_aload_n (x := some 761) (pc2 := 48) d_M_isAnswer_47 rfl rfl ?_
      refine q_getR (x := some 771) (pc2 := 51) d_M_isAnswer_48 rfl k_M_37 rfl (sh_761 hS) (rf_761_14 hR) ?_
      refine r_iconst (v := nI 2) (pc2 := 52) d_M_isAnswer_51 rfl (by decide) ?_
      refine r_iconst (v := nI 0) (pc2 := 53) d_M_isAnswer_52 rfl (by decide) ?_
      refine q_iastore (q := 2) (pc2 := 54) d_M_isAnswer_53 rfl (sh_771 hS) (nI_toInt (by omega)) (by omega) (fun I11 hI11 => ?_)
      have hm12 := MS.sr hm10 hI11
      refine r_iconst (v := nI 1) (pc2 := 55) d_M_isAnswer_54 rfl (by decide) ?_
      refine Run.ret (some (.int (nI 1))) d_M_isAnswer_55 ⟨_, rfl, by decide⟩ ?_
      have e_ : anS T n 1 p = (some (Sum.inl vq4), eq4) := by unfold anS; rw [if_pos (by omega)]; unfold fxA; rw [hoq4]
      exact ⟨_, rfl, by rw [e_]; exact ⟨rfl, hm12, fun k hk => match k, hk with | 0, _ => (rd_nk hI11 (by decide)).trans ((rd_nk hI9 (by decide)).trans (rd_eq hI7)) | 1, _ => (rd_nk hI11 (by decide)).trans (rd_eq hI9) | 2, _ => rd_eq hI11 | k + 3, h => absurd h (by omega)⟩⟩
  · skip
    have hsg := hsg1
    refine q_callv (M2 := mi_M_isSign) (pc2 := 6) d_M_isAnswer_3 rfl k_M_139 cm_M_isSign cv_M_isSign (sh_761 hS) (by decide) rfl rfl rfl (Nat.le_of_ble_eq_true rfl) (c_M_isSign_n hm hn (by omega) hk0 (c := 58) (by omega) hsg (by omega)) (d2 := d - 1) (by omega) (Nat.le_of_eq (Nat.zero_add _)) (Nat.le_of_eq (Nat.zero_add _)) ?_
    refine q_if_eq (tgt := 56) (A := (0 : Int)) (pc2 := 9) d_M_isAnswer_6 rfl rfl (nI_toInt (by omega)) (fun c13 => ?_) (fun c13 => ?_)
    rotate_left
    · exfalso; omega
    refine r_aload_n (x := some 761) (pc2 := 57) d_M_isAnswer_56 rfl rfl ?_
    refine r_bipush (v := nI 37) (pc2 := 59) d_M_isAnswer_57 rfl (by decide) ?_
    by_cases hsg14 : byt T n p = ((37 : Nat) : Int)
    · skip
      have hsg := hsg14
      have hlhsg14 := byt_lt (T := T) (n := n) (p := p) (by omega)
      refine r_callv (M2 := mi_M_isSign) (pc2 := 62) d_M_isAnswer_59 rfl k_M_139 cm_M_isSign cv_M_isSign (sh_761 hS) (by decide) rfl rfl rfl (Nat.le_of_ble_eq_true rfl) (c_M_isSign_y hm hn (by omega) hk0 (c := 37) (by omega) hsg (by omega)) (d2 := d - 1) (by omega) (Nat.le_of_eq (Nat.zero_add _)) (Nat.le_of_eq (Nat.zero_add _)) (fun r2 h2 hq2 => ?_)
      obtain ⟨rfl, Iq15, rfl, hzq15, hmq15⟩ := hq2
      refine q_if_ne (tgt := 67) (A := (1 : Int)) (pc2 := 65) d_M_isAnswer_62 rfl rfl (nI_toInt (by omega)) (fun c16 => ?_) (fun c16 => ?_)
      rotate_left
      · exfalso; omega
      refine r_iconst (v := nI 1) (pc2 := 68) d_M_isAnswer_67 rfl (by decide) ?_
      refine r_istore_n (pc2 := 69) d_M_isAnswer_68 rfl rfl (Nat.le_of_ble_eq_true rfl) ?_
      refine r_iload_n (pc2 := 70) d_M_isAnswer_69 rfl rfl ?_
      refine r_iconst (v := nI 3) (pc2 := 71) d_M_isAnswer_70 rfl (by decide) ?_
      refine q_icmp_gt (tgt := 134) (A := (1 : Int)) (B := (3 : Int)) (pc2 := 74) d_M_isAnswer_71 rfl rfl (nI_toInt (by omega)) (nI_toInt (by omega)) (fun c17 => ?_) (fun c17 => ?_)
      · exfalso; omega
      refine r_iload_n (pc2 := 75) d_M_isAnswer_74 rfl rfl ?_
      refine r_iconst (v := nI 1) (pc2 := 76) d_M_isAnswer_75 rfl (by decide) ?_
      refine q_icmp_le (tgt := 88) (A := (1 : Int)) (B := (1 : Int)) (pc2 := 79) d_M_isAnswer_76 rfl rfl (nI_toInt (by omega)) (nI_toInt (by omega)) (fun c18 => ?_) (fun c18 => ?_)
      rotate_left
      · exfalso; omega
      refine r_aload_n (x := some 761) (pc2 := 89) d_M_isAnswer_88 rfl rfl ?_
      refine r_iconst (v := nI 3) (pc2 := 90) d_M_isAnswer_89 rfl (by decide) ?_
      refine r_iconst (v := nI 0) (pc2 := 91) d_M_isAnswer_90 rfl (by decide) ?_
      refine r_iload_n (pc2 := 92) d_M_isAnswer_91 rfl rfl ?_
      refine r_aload_n (x := some 761) (pc2 := 93) d_M_isAnswer_92 rfl rfl ?_
      refine r_iload_n (pc2 := 94) d_M_isAnswer_93 rfl rfl ?_
      refine r_iconst (v := nI 0) (pc2 := 95) d_M_isAnswer_94 rfl (by decide) ?_
      refine q_callv (M2 := mi_M_of) (pc2 := 98) d_M_isAnswer_95 rfl k_M_76 cm_M_of cv_M_of (sh_761 hS) (by decide) rfl rfl rfl (Nat.le_of_ble_eq_true rfl) (c_M_of (I := Iq15) (F := F) (W := 0) hS hR (by omega)) (d2 := d - 1) (by omega) (Nat.le_of_eq (Nat.zero_add _)) (Nat.le_of_eq (Nat.zero_add _)) ?_
      refine q_top (y := nI 1) ((MS.row hmq15 (a := 762) (by decide) _).trans hG) ?_
      refine q_icmp_gt (tgt := 107) (A := (1 : Int)) (B := (1 : Int)) (pc2 := 101) d_M_isAnswer_98 rfl rfl (nI_toInt (by omega)) (nI_toInt (by omega)) (fun c19 => ?_) (fun c19 => ?_)
      · exfalso; omega
      refine r_sipush (v := nI 333) (pc2 := 104) d_M_isAnswer_101 rfl (by decide) ?_
      refine r_goto (tgt := 108) d_M_isAnswer_104 rfl ?_
      refine r_callv (M2 := mi_M_isNumber) (pc2 := 111) d_M_isAnswer_108 rfl k_M_149 cm_M_isNumber cv_M_isNumber (sh_761 hS) (by decide) rfl rfl rfl (Nat.le_of_ble_eq_true rfl) (c_M_isNumber hmq15 hn (by omega) hk0 (m := 3) (lo := 0) (hi := 333) (by omega) (by omega) (by omega) (by omega)) (d2 := d - 1) (by omega) (Nat.le_of_eq (Nat.zero_add _)) (Nat.le_of_eq (Nat.zero_add _)) (fun r2 h2 hq2 => ?_)
      obtain ⟨Iq20, rfl, hzq20, hxq20⟩ := hq2
      cases hoq20 : nmb T n 3 (p + 1) 0 333 with
      | none =>
        rw [hoq20] at hxq20
        obtain ⟨rfl, hmq20⟩ := hxq20
        refine q_if_ne (tgt := 116) (A := (0 : Int)) (pc2 := 114) d_M_isAnswer_111 rfl rfl (nI_toInt (by omega)) (fun c21 => ?_) (fun c21 => ?_)
        · exfalso; omega
        refine r_iconst (v := nI 0) (pc2 := 115) d_M_isAnswer_114 rfl (by decide) ?_
        refine Run.ret (some (.int (nI 0))) d_M_isAnswer_115 ⟨_, rfl, by decide⟩ ?_
        have e_ : anS T n 1 p = (none, p + 1) := by unfold anS; rw [if_neg (by omega), if_pos (by omega)]; unfold pxA; rw [show prt3 T n (hiT 1 0) (hiT 1 1) (hiT 1 2) (p + 1) = (none, p + 1) from by (show prt3 T n 333 0 0 (p + 1) = _); unfold prt3; rw [hoq20]]
        exact ⟨_, rfl, by rw [e_]; exact ⟨rfl, hmq20⟩⟩
      | some rq20 =>
        obtain ⟨eq20, vq20⟩ := rq20
        rw [hoq20] at hxq20
        obtain ⟨rfl, hmq20, hvq20⟩ := hxq20
        have hnbq20 := nmb_p (by omega) hoq20
        refine q_if_ne (tgt := 116) (A := (1 : Int)) (pc2 := 114) d_M_isAnswer_111 rfl rfl (nI_toInt (by omega)) (fun c22 => ?_) (fun c22 => ?_)
        rotate_left
        · exfalso; omega
        refine r_aload_n (x := some 761) (pc2 := 117) d_M_isAnswer_116 rfl rfl ?_
        refine q_getR (x := some 771) (pc2 := 120) d_M_isAnswer_117 rfl k_M_37 rfl (sh_761 hS) (rf_761_14 hR) ?_
        refine r_iload_n (pc2 := 121) d_M_isAnswer_120 rfl rfl ?_
        refine r_iconst (v := nI 1) (pc2 := 122) d_M_isAnswer_121 rfl (by decide) ?_
        refine q_isubN (pc2 := 123) d_M_isAnswer_122 rfl (by omega) ?_
        refine r_aload_n (x := some 761) (pc2 := 124) d_M_isAnswer_123 rfl rfl ?_
        refine q_getI (x := nI vq20) (pc2 := 127) d_M_isAnswer_124 rfl k_M_122 (by decide) (sh_761 hS) hvq20 ?_
        refine q_iastore (q := 0) (pc2 := 128) d_M_isAnswer_127 rfl (sh_771 hS) (nI_toInt (by omega)) (by omega) (fun I23 hI23 => ?_)
        have hm24 := MS.sr hmq20 hI23
        refine q_iinc (b := 1) (pc2 := 131) d_M_isAnswer_128 rfl rfl (by decide) (Nat.le_of_ble_eq_true rfl) ?_
        refine r_goto (tgt := 69) d_M_isAnswer_131 rfl ?_
        refine r_iload_n (pc2 := 70) d_M_isAnswer_69 rfl rfl ?_
        refine r_iconst (v := nI 3) (pc2 := 71) d_M_isAnswer_70 rfl (by decide) ?_
        refine q_icmp_gt (tgt := 134) (A := (2 : Int)) (B := (3 : Int)) (pc2 := 74) d_M_isAnswer_71 rfl rfl (nI_toInt (by omega)) (nI_toInt (by omega)) (fun c25 => ?_) (fun c25 => ?_)
        · exfalso; omega
        refine r_iload_n (pc2 := 75) d_M_isAnswer_74 rfl rfl ?_
        refine r_iconst (v := nI 1) (pc2 := 76) d_M_isAnswer_75 rfl (by decide) ?_
        refine q_icmp_le (tgt := 88) (A := (2 : Int)) (B := (1 : Int)) (pc2 := 79) d_M_isAnswer_76 rfl rfl (nI_toInt (by omega)) (nI_toInt (by omega)) (fun c26 => ?_) (fun c26 => ?_)
        · exfalso; omega
        refine r_aload_n (x := some 761) (pc2 := 80) d_M_isAnswer_79 rfl rfl ?_
        refine r_bipush (v := nI 44) (pc2 := 82) d_M_isAnswer_80 rfl (by decide) ?_
        by_cases hsg27 : byt T n eq20 = ((44 : Nat) : Int)
        · skip
          have hsg := hsg27
          have hlhsg27 := byt_lt (T := T) (n := n) (p := eq20) (by omega)
          refine r_callv (M2 := mi_M_isSign) (pc2 := 85) d_M_isAnswer_82 rfl k_M_139 cm_M_isSign cv_M_isSign (sh_761 hS) (by decide) rfl rfl rfl (Nat.le_of_ble_eq_true rfl) (c_M_isSign_y hm24 hn (by omega) hk0 (c := 44) (by omega) hsg (by omega)) (d2 := d - 1) (by omega) (Nat.le_of_eq (Nat.zero_add _)) (Nat.le_of_eq (Nat.zero_add _)) (fun r2 h2 hq2 => ?_)
          obtain ⟨rfl, Iq28, rfl, hzq28, hmq28⟩ := hq2
          refine q_if_eq (tgt := 114) (A := (1 : Int)) (pc2 := 88) d_M_isAnswer_85 rfl rfl (nI_toInt (by omega)) (fun c29 => ?_) (fun c29 => ?_)
          · exfalso; omega
          refine r_aload_n (x := some 761) (pc2 := 89) d_M_isAnswer_88 rfl rfl ?_
          refine r_iconst (v := nI 3) (pc2 := 90) d_M_isAnswer_89 rfl (by decide) ?_
          refine r_iconst (v := nI 0) (pc2 := 91) d_M_isAnswer_90 rfl (by decide) ?_
          refine r_iload_n (pc2 := 92) d_M_isAnswer_91 rfl rfl ?_
          refine r_aload_n (x := some 761) (pc2 := 93) d_M_isAnswer_92 rfl rfl ?_
          refine r_iload_n (pc2 := 94) d_M_isAnswer_93 rfl rfl ?_
          refine r_iconst (v := nI 0) (pc2 := 95) d_M_isAnswer_94 rfl (by decide) ?_
          refine q_callv (M2 := mi_M_of) (pc2 := 98) d_M_isAnswer_95 rfl k_M_76 cm_M_of cv_M_of (sh_761 hS) (by decide) rfl rfl rfl (Nat.le_of_ble_eq_true rfl) (c_M_of (I := Iq28) (F := F) (W := 0) hS hR (by omega)) (d2 := d - 1) (by omega) (Nat.le_of_eq (Nat.zero_add _)) (Nat.le_of_eq (Nat.zero_add _)) ?_
          refine q_top (y := nI 1) ((MS.row hmq28 (a := 762) (by decide) _).trans hG) ?_
          refine q_icmp_gt (tgt := 107) (A := (2 : Int)) (B := (1 : Int)) (pc2 := 101) d_M_isAnswer_98 rfl rfl (nI_toInt (by omega)) (nI_toInt (by omega)) (fun c30 => ?_) (fun c30 => ?_)
          rotate_left
          · exfalso; omega
          refine r_iconst (v := nI 0) (pc2 := 108) d_M_isAnswer_107 rfl (by decide) ?_
          refine r_callv (M2 := mi_M_isNumber) (pc2 := 111) d_M_isAnswer_108 rfl k_M_149 cm_M_isNumber cv_M_isNumber (sh_761 hS) (by decide) rfl rfl rfl (Nat.le_of_ble_eq_true rfl) (c_M_isNumber hmq28 hn (by omega) hk0 (m := 3) (lo := 0) (hi := 0) (by omega) (by omega) (by omega) (by omega)) (d2 := d - 1) (by omega) (Nat.le_of_eq (Nat.zero_add _)) (Nat.le_of_eq (Nat.zero_add _)) (fun r2 h2 hq2 => ?_)
          obtain ⟨Iq31, rfl, hzq31, hxq31⟩ := hq2
          cases hoq31 : nmb T n 3 (eq20 + 1) 0 0 with
          | none =>
            rw [hoq31] at hxq31
            obtain ⟨rfl, hmq31⟩ := hxq31
            refine q_if_ne (tgt := 116) (A := (0 : Int)) (pc2 := 114) d_M_isAnswer_111 rfl rfl (nI_toInt (by omega)) (fun c32 => ?_) (fun c32 => ?_)
            · exfalso; omega
            refine r_iconst (v := nI 0) (pc2 := 115) d_M_isAnswer_114 rfl (by decide) ?_
            refine Run.ret (some (.int (nI 0))) d_M_isAnswer_115 ⟨_, rfl, by decide⟩ ?_
            have e_ : anS T n 1 p = (none, eq20 + 1) := by unfold anS; rw [if_neg (by omega), if_pos (by omega)]; unfold pxA; rw [show prt3 T n (hiT 1 0) (hiT 1 1) (hiT 1 2) (p + 1) = (none, eq20 + 1) from by (show prt3 T n 333 0 0 (p + 1) = _); unfold prt3; rw [hoq20]; dsimp only; rw [if_neg (show ¬ (byt T n eq20 ≠ 44) by omega), hoq31]]
            exact ⟨_, rfl, by rw [e_]; exact ⟨rfl, hmq31⟩⟩
          | some rq31 =>
            obtain ⟨eq31, vq31⟩ := rq31
            rw [hoq31] at hxq31
            obtain ⟨rfl, hmq31, hvq31⟩ := hxq31
            have hnbq31 := nmb_p (by omega) hoq31
            refine q_if_ne (tgt := 116) (A := (1 : Int)) (pc2 := 114) d_M_isAnswer_111 rfl rfl (nI_toInt (by omega)) (fun c33 => ?_) (fun c33 => ?_)
            rotate_left
            · exfalso; omega
            refine r_aload_n (x := some 761) (pc2 := 117) d_M_isAnswer_116 rfl rfl ?_
            refine q_getR (x := some 771) (pc2 := 120) d_M_isAnswer_117 rfl k_M_37 rfl (sh_761 hS) (rf_761_14 hR) ?_
            refine r_iload_n (pc2 := 121) d_M_isAnswer_120 rfl rfl ?_
            refine r_iconst (v := nI 1) (pc2 := 122) d_M_isAnswer_121 rfl (by decide) ?_
            refine q_isubN (pc2 := 123) d_M_isAnswer_122 rfl (by omega) ?_
            refine r_aload_n (x := some 761) (pc2 := 124) d_M_isAnswer_123 rfl rfl ?_
            refine q_getI (x := nI vq31) (pc2 := 127) d_M_isAnswer_124 rfl k_M_122 (by decide) (sh_761 hS) hvq31 ?_
            refine q_iastore (q := 1) (pc2 := 128) d_M_isAnswer_127 rfl (sh_771 hS) (nI_toInt (by omega)) (by omega) (fun I34 hI34 => ?_)
            have hm35 := MS.sr hmq31 hI34
            refine q_iinc (b := 1) (pc2 := 131) d_M_isAnswer_128 rfl rfl (by decide) (Nat.le_of_ble_eq_true rfl) ?_
            refine r_goto (tgt := 69) d_M_isAnswer_131 rfl ?_
            refine r_iload_n (pc2 := 70) d_M_isAnswer_69 rfl rfl ?_
            refine r_iconst (v := nI 3) (pc2 := 71) d_M_isAnswer_70 rfl (by decide) ?_
            refine q_icmp_gt (tgt := 134) (A := (3 : Int)) (B := (3 : Int)) (pc2 := 74) d_M_isAnswer_71 rfl rfl (nI_toInt (by omega)) (nI_toInt (by omega)) (fun c36 => ?_) (fun c36 => ?_)
            · exfalso; omega
            refine r_iload_n (pc2 := 75) d_M_isAnswer_74 rfl rfl ?_
            refine r_iconst (v := nI 1) (pc2 := 76) d_M_isAnswer_75 rfl (by decide) ?_
            refine q_icmp_le (tgt := 88) (A := (3 : Int)) (B := (1 : Int)) (pc2 := 79) d_M_isAnswer_76 rfl rfl (nI_toInt (by omega)) (nI_toInt (by omega)) (fun c37 => ?_) (fun c37 => ?_)
            · exfalso; omega
            refine r_aload_n (x := some 761) (pc2 := 80) d_M_isAnswer_79 rfl rfl ?_
            refine r_bipush (v := nI 44) (pc2 := 82) d_M_isAnswer_80 rfl (by decide) ?_
            by_cases hsg38 : byt T n eq31 = ((44 : Nat) : Int)
            · skip
              have hsg := hsg38
              have hlhsg38 := byt_lt (T := T) (n := n) (p := eq31) (by omega)
              refine r_callv (M2 := mi_M_isSign) (pc2 := 85) d_M_isAnswer_82 rfl k_M_139 cm_M_isSign cv_M_isSign (sh_761 hS) (by decide) rfl rfl rfl (Nat.le_of_ble_eq_true rfl) (c_M_isSign_y hm35 hn (by omega) hk0 (c := 44) (by omega) hsg (by omega)) (d2 := d - 1) (by omega) (Nat.le_of_eq (Nat.zero_add _)) (Nat.le_of_eq (Nat.zero_add _)) (fun r2 h2 hq2 => ?_)
              obtain ⟨rfl, Iq39, rfl, hzq39, hmq39⟩ := hq2
              refine q_if_eq (tgt := 114) (A := (1 : Int)) (pc2 := 88) d_M_isAnswer_85 rfl rfl (nI_toInt (by omega)) (fun c40 => ?_) (fun c40 => ?_)
              · exfalso; omega
              refine r_aload_n (x := some 761) (pc2 := 89) d_M_isAnswer_88 rfl rfl ?_
              refine r_iconst (v := nI 3) (pc2 := 90) d_M_isAnswer_89 rfl (by decide) ?_
              refine r_iconst (v := nI 0) (pc2 := 91) d_M_isAnswer_90 rfl (by decide) ?_
              refine r_iload_n (pc2 := 92) d_M_isAnswer_91 rfl rfl ?_
              refine r_aload_n (x := some 761) (pc2 := 93) d_M_isAnswer_92 rfl rfl ?_
              refine r_iload_n (pc2 := 94) d_M_isAnswer_93 rfl rfl ?_
              refine r_iconst (v := nI 0) (pc2 := 95) d_M_isAnswer_94 rfl (by decide) ?_
              refine q_callv (M2 := mi_M_of) (pc2 := 98) d_M_isAnswer_95 rfl k_M_76 cm_M_of cv_M_of (sh_761 hS) (by decide) rfl rfl rfl (Nat.le_of_ble_eq_true rfl) (c_M_of (I := Iq39) (F := F) (W := 0) hS hR (by omega)) (d2 := d - 1) (by omega) (Nat.le_of_eq (Nat.zero_add _)) (Nat.le_of_eq (Nat.zero_add _)) ?_
              refine q_top (y := nI 1) ((MS.row hmq39 (a := 762) (by decide) _).trans hG) ?_
              refine q_icmp_gt (tgt := 107) (A := (3 : Int)) (B := (1 : Int)) (pc2 := 101) d_M_isAnswer_98 rfl rfl (nI_toInt (by omega)) (nI_toInt (by omega)) (fun c41 => ?_) (fun c41 => ?_)
              rotate_left
              · exfalso; omega
              refine r_iconst (v := nI 0) (pc2 := 108) d_M_isAnswer_107 rfl (by decide) ?_
              refine r_callv (M2 := mi_M_isNumber) (pc2 := 111) d_M_isAnswer_108 rfl k_M_149 cm_M_isNumber cv_M_isNumber (sh_761 hS) (by decide) rfl rfl rfl (Nat.le_of_ble_eq_true rfl) (c_M_isNumber hmq39 hn (by omega) hk0 (m := 3) (lo := 0) (hi := 0) (by omega) (by omega) (by omega) (by omega)) (d2 := d - 1) (by omega) (Nat.le_of_eq (Nat.zero_add _)) (Nat.le_of_eq (Nat.zero_add _)) (fun r2 h2 hq2 => ?_)
              obtain ⟨Iq42, rfl, hzq42, hxq42⟩ := hq2
              cases hoq42 : nmb T n 3 (eq31 + 1) 0 0 with
              | none =>
                rw [hoq42] at hxq42
                obtain ⟨rfl, hmq42⟩ := hxq42
                refine q_if_ne (tgt := 116) (A := (0 : Int)) (pc2 := 114) d_M_isAnswer_111 rfl rfl (nI_toInt (by omega)) (fun c43 => ?_) (fun c43 => ?_)
                · exfalso; omega
                refine r_iconst (v := nI 0) (pc2 := 115) d_M_isAnswer_114 rfl (by decide) ?_
                refine Run.ret (some (.int (nI 0))) d_M_isAnswer_115 ⟨_, rfl, by decide⟩ ?_
                have e_ : anS T n 1 p = (none, eq31 + 1) := by unfold anS; rw [if_neg (by omega), if_pos (by omega)]; unfold pxA; rw [show prt3 T n (hiT 1 0) (hiT 1 1) (hiT 1 2) (p + 1) = (none, eq31 + 1) from by (show prt3 T n 333 0 0 (p + 1) = _); unfold prt3; rw [hoq20]; dsimp only; rw [if_neg (show ¬ (byt T n eq20 ≠ 44) by omega), hoq31]; dsimp only; rw [if_neg (show ¬ (byt T n eq31 ≠ 44) by omega), hoq42]]
                exact ⟨_, rfl, by rw [e_]; exact ⟨rfl, hmq42⟩⟩
              | some rq42 =>
                obtain ⟨eq42, vq42⟩ := rq42
                rw [hoq42] at hxq42
                obtain ⟨rfl, hmq42, hvq42⟩ := hxq42
                have hnbq42 := nmb_p (by omega) hoq42
                refine q_if_ne (tgt := 116) (A := (1 : Int)) (pc2 := 114) d_M_isAnswer_111 rfl rfl (nI_toInt (by omega)) (fun c44 => ?_) (fun c44 => ?_)
                rotate_left
                · exfalso; omega
                refine r_aload_n (x := some 761) (pc2 := 117) d_M_isAnswer_116 rfl rfl ?_
                refine q_getR (x := some 771) (pc2 := 120) d_M_isAnswer_117 rfl k_M_37 rfl (sh_761 hS) (rf_761_14 hR) ?_
                refine r_iload_n (pc2 := 121) d_M_isAnswer_120 rfl rfl ?_
                refine r_iconst (v := nI 1) (pc2 := 122) d_M_isAnswer_121 rfl (by decide) ?_
                refine q_isubN (pc2 := 123) d_M_isAnswer_122 rfl (by omega) ?_
                refine r_aload_n (x := some 761) (pc2 := 124) d_M_isAnswer_123 rfl rfl ?_
                refine q_getI (x := nI vq42) (pc2 := 127) d_M_isAnswer_124 rfl k_M_122 (by decide) (sh_761 hS) hvq42 ?_
                refine q_iastore (q := 2) (pc2 := 128) d_M_isAnswer_127 rfl (sh_771 hS) (nI_toInt (by omega)) (by omega) (fun I45 hI45 => ?_)
                have hm46 := MS.sr hmq42 hI45
                refine q_iinc (b := 1) (pc2 := 131) d_M_isAnswer_128 rfl rfl (by decide) (Nat.le_of_ble_eq_true rfl) ?_
                refine r_goto (tgt := 69) d_M_isAnswer_131 rfl ?_
                refine r_iload_n (pc2 := 70) d_M_isAnswer_69 rfl rfl ?_
                refine r_iconst (v := nI 3) (pc2 := 71) d_M_isAnswer_70 rfl (by decide) ?_
                refine q_icmp_gt (tgt := 134) (A := (4 : Int)) (B := (3 : Int)) (pc2 := 74) d_M_isAnswer_71 rfl rfl (nI_toInt (by omega)) (nI_toInt (by omega)) (fun c47 => ?_) (fun c47 => ?_)
                rotate_left
                · exfalso; omega
                refine r_iconst (v := nI 1) (pc2 := 135) d_M_isAnswer_134 rfl (by decide) ?_
                refine Run.ret (some (.int (nI 1))) d_M_isAnswer_135 ⟨_, rfl, by decide⟩ ?_
                have e_ : anS T n 1 p = (some (Sum.inr (vq20, vq31, vq42)), eq42) := by unfold anS; rw [if_neg (by omega), if_pos (by omega)]; unfold pxA; rw [show prt3 T n (hiT 1 0) (hiT 1 1) (hiT 1 2) (p + 1) = (some (vq20, vq31, vq42), eq42) from by (show prt3 T n 333 0 0 (p + 1) = _); unfold prt3; rw [hoq20]; dsimp only; rw [if_neg (show ¬ (byt T n eq20 ≠ 44) by omega), hoq31]; dsimp only; rw [if_neg (show ¬ (byt T n eq31 ≠ 44) by omega), hoq42]]
                exact ⟨_, rfl, by rw [e_]; exact ⟨rfl, hm46, fun k hk => match k, hk with | 0, _ => (rd_nk hI45 (by decide)).trans ((hzq42 771 0 (by decide)).trans ((hzq39 771 0 (by decide)).trans ((rd_nk hI34 (by decide)).trans ((hzq31 771 0 (by decide)).trans ((hzq28 771 0 (by decide)).trans (rd_eq hI23)))))) | 1, _ => (rd_nk hI45 (by decide)).trans ((hzq42 771 1 (by decide)).trans ((hzq39 771 1 (by decide)).trans (rd_eq hI34))) | 2, _ => rd_eq hI45 | k + 3, h => absurd h (by omega)⟩⟩
            · skip
              have hsg := hsg38
              refine q_callv (M2 := mi_M_isSign) (pc2 := 85) d_M_isAnswer_82 rfl k_M_139 cm_M_isSign cv_M_isSign (sh_761 hS) (by decide) rfl rfl rfl (Nat.le_of_ble_eq_true rfl) (c_M_isSign_n hm35 hn (by omega) hk0 (c := 44) (by omega) hsg (by omega)) (d2 := d - 1) (by omega) (Nat.le_of_eq (Nat.zero_add _)) (Nat.le_of_eq (Nat.zero_add _)) ?_
              refine q_if_eq (tgt := 114) (A := (0 : Int)) (pc2 := 88) d_M_isAnswer_85 rfl rfl (nI_toInt (by omega)) (fun c48 => ?_) (fun c48 => ?_)
              rotate_left
              · exfalso; omega
              refine r_iconst (v := nI 0) (pc2 := 115) d_M_isAnswer_114 rfl (by decide) ?_
              refine Run.ret (some (.int (nI 0))) d_M_isAnswer_115 ⟨_, rfl, by decide⟩ ?_
              have e_ : anS T n 1 p = (none, eq31) := by unfold anS; rw [if_neg (by omega), if_pos (by omega)]; unfold pxA; rw [show prt3 T n (hiT 1 0) (hiT 1 1) (hiT 1 2) (p + 1) = (none, eq31) from by (show prt3 T n 333 0 0 (p + 1) = _); unfold prt3; rw [hoq20]; dsimp only; rw [if_neg (show ¬ (byt T n eq20 ≠ 44) by omega), hoq31]; dsimp only; rw [if_pos (by omega)]]
              exact ⟨_, rfl, by rw [e_]; exact ⟨rfl, hm35⟩⟩
        · skip
          have hsg := hsg27
          refine q_callv (M2 := mi_M_isSign) (pc2 := 85) d_M_isAnswer_82 rfl k_M_139 cm_M_isSign cv_M_isSign (sh_761 hS) (by decide) rfl rfl rfl (Nat.le_of_ble_eq_true rfl) (c_M_isSign_n hm24 hn (by omega) hk0 (c := 44) (by omega) hsg (by omega)) (d2 := d - 1) (by omega) (Nat.le_of_eq (Nat.zero_add _)) (Nat.le_of_eq (Nat.zero_add _)) ?_
          refine q_if_eq (tgt := 114) (A := (0 : Int)) (pc2 := 88) d_M_isAnswer_85 rfl rfl (nI_toInt (by omega)) (fun c49 => ?_) (fun c49 => ?_)
          rotate_left
          · exfalso; omega
          refine r_iconst (v := nI 0) (pc2 := 115) d_M_isAnswer_114 rfl (by decide) ?_
          refine Run.ret (some (.int (nI 0))) d_M_isAnswer_115 ⟨_, rfl, by decide⟩ ?_
          have e_ : anS T n 1 p = (none, eq20) := by unfold anS; rw [if_neg (by omega), if_pos (by omega)]; unfold pxA; rw [show prt3 T n (hiT 1 0) (hiT 1 1) (hiT 1 2) (p + 1) = (none, eq20) from by (show prt3 T n 333 0 0 (p + 1) = _); unfold prt3; rw [hoq20]; dsimp only; rw [if_pos (by omega)]]
          exact ⟨_, rfl, by rw [e_]; exact ⟨rfl, hm24⟩⟩
    · skip
      have hsg := hsg14
      refine q_callv (M2 := mi_M_isSign) (pc2 := 62) d_M_isAnswer_59 rfl k_M_139 cm_M_isSign cv_M_isSign (sh_761 hS) (by decide) rfl rfl rfl (Nat.le_of_ble_eq_true rfl) (c_M_isSign_n hm hn (by omega) hk0 (c := 37) (by omega) hsg (by omega)) (d2 := d - 1) (by omega) (Nat.le_of_eq (Nat.zero_add _)) (Nat.le_of_eq (Nat.zero_add _)) ?_
      refine q_if_ne (tgt := 67) (A := (0 : Int)) (pc2 := 65) d_M_isAnswer_62 rfl rfl (nI_toInt (by omega)) (fun c50 => ?_) (fun c50 => ?_)
      · exfalso; omega
      refine r_iconst (v := nI 0) (pc2 := 66) d_M_isAnswer_65 rfl (by decide) ?_
      refine Run.ret (some (.int (nI 0))) d_M_isAnswer_66 ⟨_, rfl, by decide⟩ ?_
      have e_ : anS T n 1 p = (none, p) := by unfold anS; rw [if_neg (by omega), if_neg (by omega)]
      exact ⟨_, rfl, by rw [e_]; exact ⟨rfl, hm⟩⟩
theorem c_M_isAnswer_2 {d : Nat} {B : HS} {A0 A : A4} {k0 n p nk : Nat} {T : Nat → Int32} {ns : List Nd} {I : Nat → Nat → Int32} {R : Nat → Nat → Option Nat} {L : Nat → Nat → Int64} {sh : Nat → Nat × Nat} {N : Nat} (hm : MS B A0 k0 n T p nk ns A (I, R, L, sh, N)) (hn : n ≤ 250) (hp : p ≤ n) (hk0 : k0 ≤ 1000) {F : Nat} (hF : F < 12) (hG : B.1 762 (174 + 84 * F + 0) = nI 2) (hd : 4 ≤ d) : Mt mi_M_isAnswer d 0 0 [.ref 761, .int (nI F)] (I, R, L, sh, N) (fun x h2 => ∃ K, h2 = (K, R, L, sh, N) ∧ AnM B A0 k0 n T nk ns A (anS T n 2 p) x (K, R, L, sh, N)) := by
  obtain ⟨-, -, -, -, -, -, -, -, hS, hR, -⟩ := id hm
  dsimp only at hS hR
  refine Mt.of pn_M (Nat.le_of_ble_eq_true rfl) ?_
  show Run mi_M_isAnswer d 0 0 0 [(0, .ref 761), (1, .int (nI F))] [] (I, R, L, sh, N) _
  refine r_aload_n (x := some 761) (pc2 := 1) d_M_isAnswer_0 rfl rfl ?_
  refine r_bipush (v := nI 58) (pc2 := 3) d_M_isAnswer_1 rfl (by decide) ?_
  by_cases hsg1 : byt T n p = ((58 : Nat) : Int)
  · skip
    have hsg := hsg1
    have hlhsg1 := byt_lt (T := T) (n := n) (p := p) (by omega)
    refine r_callv (M2 := mi_M_isSign) (pc2 := 6) d_M_isAnswer_3 rfl k_M_139 cm_M_isSign cv_M_isSign (sh_761 hS) (by decide) rfl rfl rfl (Nat.le_of_ble_eq_true rfl) (c_M_isSign_y hm hn (by omega) hk0 (c := 58) (by omega) hsg (by omega)) (d2 := d - 1) (by omega) (Nat.le_of_eq (Nat.zero_add _)) (Nat.le_of_eq (Nat.zero_add _)) (fun r2 h2 hq2 => ?_)
    obtain ⟨rfl, Iq2, rfl, hzq2, hmq2⟩ := hq2
    refine q_if_eq (tgt := 56) (A := (1 : Int)) (pc2 := 9) d_M_isAnswer_6 rfl rfl (nI_toInt (by omega)) (fun c3 => ?_) (fun c3 => ?_)
    · exfalso; omega
    refine r_aload_n (x := some 761) (pc2 := 10) d_M_isAnswer_9 rfl rfl ?_
    refine r_iconst (v := nI 1) (pc2 := 11) d_M_isAnswer_10 rfl (by decide) ?_
    refine r_iconst (v := nI 0) (pc2 := 12) d_M_isAnswer_11 rfl (by decide) ?_
    refine r_aload_n (x := some 761) (pc2 := 13) d_M_isAnswer_12 rfl rfl ?_
    refine r_iload_n (pc2 := 14) d_M_isAnswer_13 rfl rfl ?_
    refine r_iconst (v := nI 0) (pc2 := 15) d_M_isAnswer_14 rfl (by decide) ?_
    refine q_callv (M2 := mi_M_of) (pc2 := 18) d_M_isAnswer_15 rfl k_M_76 cm_M_of cv_M_of (sh_761 hS) (by decide) rfl rfl rfl (Nat.le_of_ble_eq_true rfl) (c_M_of (I := Iq2) (F := F) (W := 0) hS hR (by omega)) (d2 := d - 1) (by omega) (Nat.le_of_eq (Nat.zero_add _)) (Nat.le_of_eq (Nat.zero_add _)) ?_
    refine q_top (y := nI 2) ((MS.row hmq2 (a := 762) (by decide) _).trans hG) ?_
    refine r_callv (M2 := mi_M_isNumber) (pc2 := 21) d_M_isAnswer_18 rfl k_M_149 cm_M_isNumber cv_M_isNumber (sh_761 hS) (by decide) rfl rfl rfl (Nat.le_of_ble_eq_true rfl) (c_M_isNumber hmq2 hn (by omega) hk0 (m := 1) (lo := 0) (hi := 2) (by omega) (by omega) (by omega) (by omega)) (d2 := d - 1) (by omega) (Nat.le_of_eq (Nat.zero_add _)) (Nat.le_of_eq (Nat.zero_add _)) (fun r2 h2 hq2 => ?_)
    obtain ⟨Iq4, rfl, hzq4, hxq4⟩ := hq2
    cases hoq4 : nmb T n 1 (p + 1) 0 2 with
    | none =>
      rw [hoq4] at hxq4
      obtain ⟨rfl, hmq4⟩ := hxq4
      refine q_if_ne (tgt := 26) (A := (0 : Int)) (pc2 := 24) d_M_isAnswer_21 rfl rfl (nI_toInt (by omega)) (fun c5 => ?_) (fun c5 => ?_)
      · exfalso; omega
      refine r_iconst (v := nI 0) (pc2 := 25) d_M_isAnswer_24 rfl (by decide) ?_
      refine Run.ret (some (.int (nI 0))) d_M_isAnswer_25 ⟨_, rfl, by decide⟩ ?_
      have e_ : anS T n 2 p = (none, p + 1) := by unfold anS; rw [if_pos (by omega)]; unfold fxA; rw [hoq4]
      exact ⟨_, rfl, by rw [e_]; exact ⟨rfl, hmq4⟩⟩
    | some rq4 =>
      obtain ⟨eq4, vq4⟩ := rq4
      rw [hoq4] at hxq4
      obtain ⟨rfl, hmq4, hvq4⟩ := hxq4
      have hnbq4 := nmb_p (by omega) hoq4
      refine q_if_ne (tgt := 26) (A := (1 : Int)) (pc2 := 24) d_M_isAnswer_21 rfl rfl (nI_toInt (by omega)) (fun c6 => ?_) (fun c6 => ?_)
      rotate_left
      · exfalso; omega
      refine r_aload_n (x := some 761) (pc2 := 27) d_M_isAnswer_26 rfl rfl ?_
      refine q_getR (x := some 771) (pc2 := 30) d_M_isAnswer_27 rfl k_M_37 rfl (sh_761 hS) (rf_761_14 hR) ?_
      refine r_iconst (v := nI 0) (pc2 := 31) d_M_isAnswer_30 rfl (by decide) ?_
      refine r_sipush (v := nI 1000) (pc2 := 34) d_M_isAnswer_31 rfl (by decide) ?_
      refine r_aload_n (x := some 761) (pc2 := 35) d_M_isAnswer_34 rfl rfl ?_
      refine q_getI (x := nI vq4) (pc2 := 38) d_M_isAnswer_35 rfl k_M_122 (by decide) (sh_761 hS) hvq4 ?_
      refine q_iaddN (pc2 := 39) d_M_isAnswer_38 rfl ?_
      refine q_iastore (q := 0) (pc2 := 40) d_M_isAnswer_39 rfl (sh_771 hS) (nI_toInt (by omega)) (by omega) (fun I7 hI7 => ?_)
      have hm8 := MS.sr hmq4 hI7
      refine r_aload_n (x := some 761) (pc2 := 41) d_M_isAnswer_40 rfl rfl ?_
      refine q_getR (x := some 771) (pc2 := 44) d_M_isAnswer_41 rfl k_M_37 rfl (sh_761 hS) (rf_761_14 hR) ?_
      refine r_iconst (v := nI 1) (pc2 := 45) d_M_isAnswer_44 rfl (by decide) ?_
      refine r_iconst (v := nI 0) (pc2 := 46) d_M_isAnswer_45 rfl (by decide) ?_
      refine q_iastore (q := 1) (pc2 := 47) d_M_isAnswer_46 rfl (sh_771 hS) (nI_toInt (by omega)) (by omega) (fun I9 hI9 => ?_)
      have hm10 := MS.sr hm8 hI9
      refine r_aload_n (x := some 761) (pc2 := 48) d_M_isAnswer_47 rfl rfl ?_
      refine q_getR (x := some 771) (pc2 := 51) d_M_isAnswer_48 rfl k_M_37 rfl (sh_761 hS) (rf_761_14 hR) ?_
      refine r_iconst (v := nI 2) (pc2 := 52) d_M_isAnswer_51 rfl (by decide) ?_
      refine r_iconst (v := nI 0) (pc2 := 53) d_M_isAnswer_52 rfl (by decide) ?_
      refine q_iastore (q := 2) (pc2 := 54) d_M_isAnswer_53 rfl (sh_771 hS) (nI_toInt (by omega)) (by omega) (fun I11 hI11 => ?_)
      have hm12 := MS.sr hm10 hI11
      refine r_iconst (v := nI 1) (pc2 := 55) d_M_isAnswer_54 rfl (by decide) ?_
      refine Run.ret (some (.int (nI 1))) d_M_isAnswer_55 ⟨_, rfl, by decide⟩ ?_
      have e_ : anS T n 2 p = (some (Sum.inl vq4), eq4) := by unfold anS; rw [if_pos (by omega)]; unfold fxA; rw [hoq4]
      exact ⟨_, rfl, by rw [e_]; exact ⟨rfl, hm12, fun k hk => match k, hk with | 0, _ => (rd_nk hI11 (by decide)).trans ((rd_nk hI9 (by decide)).trans (rd_eq hI7)) | 1, _ => (rd_nk hI11 (by decide)).trans (rd_eq hI9) | 2, _ => rd_eq hI11 | k + 3, h => absurd h (by omega)⟩⟩
  · skip
    have hsg := hsg1
    refine q_callv (M2 := mi_M_isSign) (pc2 := 6) d_M_isAnswer_3 rfl k_M_139 cm_M_isSign cv_M_isSign (sh_761 hS) (by decide) rfl rfl rfl (Nat.le_of_ble_eq_true rfl) (c_M_isSign_n hm hn (by omega) hk0 (c := 58) (by omega) hsg (by omega)) (d2 := d - 1) (by omega) (Nat.le_of_eq (Nat.zero_add _)) (Nat.le_of_eq (Nat.zero_add _)) ?_
    refine q_if_eq (tgt := 56) (A := (0 : Int)) (pc2 := 9) d_M_isAnswer_6 rfl rfl (nI_toInt (by omega)) (fun c13 => ?_) (fun c13 => ?_)
    rotate_left
    · exfalso; omega
    refine r_aload_n (x := some 761) (pc2 := 57) d_M_isAnswer_56 rfl rfl ?_
    refine r_bipush (v := nI 37) (pc2 := 59) d_M_isAnswer_57 rfl (by decide) ?_
    by_cases hsg14 : byt T n p = ((37 : Nat) : Int)
    · skip
      have hsg := hsg14
      have hlhsg14 := byt_lt (T := T) (n := n) (p := p) (by omega)
      refine r_callv (M2 := mi_M_isSign) (pc2 := 62) d_M_isAnswer_59 rfl k_M_139 cm_M_isSign cv_M_isSign (sh_761 hS) (by decide) rfl rfl rfl (Nat.le_of_ble_eq_true rfl) (c_M_isSign_y hm hn (by omega) hk0 (c := 37) (by omega) hsg (by omega)) (d2 := d - 1) (by omega) (Nat.le_of_eq (Nat.zero_add _)) (Nat.le_of_eq (Nat.zero_add _)) (fun r2 h2 hq2 => ?_)
      obtain ⟨rfl, Iq15, rfl, hzq15, hmq15⟩ := hq2
      refine q_if_ne (tgt := 67) (A := (1 : Int)) (pc2 := 65) d_M_isAnswer_62 rfl rfl (nI_toInt (by omega)) (fun c16 => ?_) (fun c16 => ?_)
      rotate_left
      · exfalso; omega
      refine r_iconst (v := nI 1) (pc2 := 68) d_M_isAnswer_67 rfl (by decide) ?_
      refine r_istore_n (pc2 := 69) d_M_isAnswer_68 rfl rfl (Nat.le_of_ble_eq_true rfl) ?_
      refine r_iload_n (pc2 := 70) d_M_isAnswer_69 rfl rfl ?_
      refine r_iconst (v := nI 3) (pc2 := 71) d_M_isAnswer_70 rfl (by decide) ?_
      refine q_icmp_gt (tgt := 134) (A := (1 : Int)) (B := (3 : Int)) (pc2 := 74) d_M_isAnswer_71 rfl rfl (nI_toInt (by omega)) (nI_toInt (by omega)) (fun c17 => ?_) (fun c17 => ?_)
      · exfalso; omega
      refine r_iload_n (pc2 := 75) d_M_isAnswer_74 rfl rfl ?_
      refine r_iconst (v := nI 1) (pc2 := 76) d_M_isAnswer_75 rfl (by decide) ?_
      refine q_icmp_le (tgt := 88) (A := (1 : Int)) (B := (1 : Int)) (pc2 := 79) d_M_isAnswer_76 rfl rfl (nI_toInt (by omega)) (nI_toInt (by omega)) (fun c18 => ?_) (fun c18 => ?_)
      rotate_left
      · exfalso; omega
      refine r_aload_n (x := some 761) (pc2 := 89) d_M_isAnswer_88 rfl rfl ?_
      refine r_iconst (v := nI 3) (pc2 := 90) d_M_isAnswer_89 rfl (by decide) ?_
      refine r_iconst (v := nI 0) (pc2 := 91) d_M_isAnswer_90 rfl (by decide) ?_
      refine r_iload_n (pc2 := 92) d_M_isAnswer_91 rfl rfl ?_
      refine r_aload_n (x := some 761) (pc2 := 93) d_M_isAnswer_92 rfl rfl ?_
      refine r_iload_n (pc2 := 94) d_M_isAnswer_93 rfl rfl ?_
      refine r_iconst (v := nI 0) (pc2 := 95) d_M_isAnswer_94 rfl (by decide) ?_
      refine q_callv (M2 := mi_M_of) (pc2 := 98) d_M_isAnswer_95 rfl k_M_76 cm_M_of cv_M_of (sh_761 hS) (by decide) rfl rfl rfl (Nat.le_of_ble_eq_true rfl) (c_M_of (I := Iq15) (F := F) (W := 0) hS hR (by omega)) (d2 := d - 1) (by omega) (Nat.le_of_eq (Nat.zero_add _)) (Nat.le_of_eq (Nat.zero_add _)) ?_
      refine q_top (y := nI 2) ((MS.row hmq15 (a := 762) (by decide) _).trans hG) ?_
      refine q_icmp_gt (tgt := 107) (A := (1 : Int)) (B := (2 : Int)) (pc2 := 101) d_M_isAnswer_98 rfl rfl (nI_toInt (by omega)) (nI_toInt (by omega)) (fun c19 => ?_) (fun c19 => ?_)
      · exfalso; omega
      refine r_sipush (v := nI 333) (pc2 := 104) d_M_isAnswer_101 rfl (by decide) ?_
      refine r_goto (tgt := 108) d_M_isAnswer_104 rfl ?_
      refine r_callv (M2 := mi_M_isNumber) (pc2 := 111) d_M_isAnswer_108 rfl k_M_149 cm_M_isNumber cv_M_isNumber (sh_761 hS) (by decide) rfl rfl rfl (Nat.le_of_ble_eq_true rfl) (c_M_isNumber hmq15 hn (by omega) hk0 (m := 3) (lo := 0) (hi := 333) (by omega) (by omega) (by omega) (by omega)) (d2 := d - 1) (by omega) (Nat.le_of_eq (Nat.zero_add _)) (Nat.le_of_eq (Nat.zero_add _)) (fun r2 h2 hq2 => ?_)
      obtain ⟨Iq20, rfl, hzq20, hxq20⟩ := hq2
      cases hoq20 : nmb T n 3 (p + 1) 0 333 with
      | none =>
        rw [hoq20] at hxq20
        obtain ⟨rfl, hmq20⟩ := hxq20
        refine q_if_ne (tgt := 116) (A := (0 : Int)) (pc2 := 114) d_M_isAnswer_111 rfl rfl (nI_toInt (by omega)) (fun c21 => ?_) (fun c21 => ?_)
        · exfalso; omega
        refine r_iconst (v := nI 0) (pc2 := 115) d_M_isAnswer_114 rfl (by decide) ?_
        refine Run.ret (some (.int (nI 0))) d_M_isAnswer_115 ⟨_, rfl, by decide⟩ ?_
        have e_ : anS T n 2 p = (none, p + 1) := by unfold anS; rw [if_neg (by omega), if_pos (by omega)]; unfold pxA; rw [show prt3 T n (hiT 2 0) (hiT 2 1) (hiT 2 2) (p + 1) = (none, p + 1) from by (show prt3 T n 333 333 0 (p + 1) = _); unfold prt3; rw [hoq20]]
        exact ⟨_, rfl, by rw [e_]; exact ⟨rfl, hmq20⟩⟩
      | some rq20 =>
        obtain ⟨eq20, vq20⟩ := rq20
        rw [hoq20] at hxq20
        obtain ⟨rfl, hmq20, hvq20⟩ := hxq20
        have hnbq20 := nmb_p (by omega) hoq20
        refine q_if_ne (tgt := 116) (A := (1 : Int)) (pc2 := 114) d_M_isAnswer_111 rfl rfl (nI_toInt (by omega)) (fun c22 => ?_) (fun c22 => ?_)
        rotate_left
        · exfalso; omega
        refine r_aload_n (x := some 761) (pc2 := 117) d_M_isAnswer_116 rfl rfl ?_
        refine q_getR (x := some 771) (pc2 := 120) d_M_isAnswer_117 rfl k_M_37 rfl (sh_761 hS) (rf_761_14 hR) ?_
        refine r_iload_n (pc2 := 121) d_M_isAnswer_120 rfl rfl ?_
        refine r_iconst (v := nI 1) (pc2 := 122) d_M_isAnswer_121 rfl (by decide) ?_
        refine q_isubN (pc2 := 123) d_M_isAnswer_122 rfl (by omega) ?_
        refine r_aload_n (x := some 761) (pc2 := 124) d_M_isAnswer_123 rfl rfl ?_
        refine q_getI (x := nI vq20) (pc2 := 127) d_M_isAnswer_124 rfl k_M_122 (by decide) (sh_761 hS) hvq20 ?_
        refine q_iastore (q := 0) (pc2 := 128) d_M_isAnswer_127 rfl (sh_771 hS) (nI_toInt (by omega)) (by omega) (fun I23 hI23 => ?_)
        have hm24 := MS.sr hmq20 hI23
        refine q_iinc (b := 1) (pc2 := 131) d_M_isAnswer_128 rfl rfl (by decide) (Nat.le_of_ble_eq_true rfl) ?_
        refine r_goto (tgt := 69) d_M_isAnswer_131 rfl ?_
        refine r_iload_n (pc2 := 70) d_M_isAnswer_69 rfl rfl ?_
        refine r_iconst (v := nI 3) (pc2 := 71) d_M_isAnswer_70 rfl (by decide) ?_
        refine q_icmp_gt (tgt := 134) (A := (2 : Int)) (B := (3 : Int)) (pc2 := 74) d_M_isAnswer_71 rfl rfl (nI_toInt (by omega)) (nI_toInt (by omega)) (fun c25 => ?_) (fun c25 => ?_)
        · exfalso; omega
        refine r_iload_n (pc2 := 75) d_M_isAnswer_74 rfl rfl ?_
        refine r_iconst (v := nI 1) (pc2 := 76) d_M_isAnswer_75 rfl (by decide) ?_
        refine q_icmp_le (tgt := 88) (A := (2 : Int)) (B := (1 : Int)) (pc2 := 79) d_M_isAnswer_76 rfl rfl (nI_toInt (by omega)) (nI_toInt (by omega)) (fun c26 => ?_) (fun c26 => ?_)
        · exfalso; omega
        refine r_aload_n (x := some 761) (pc2 := 80) d_M_isAnswer_79 rfl rfl ?_
        refine r_bipush (v := nI 44) (pc2 := 82) d_M_isAnswer_80 rfl (by decide) ?_
        by_cases hsg27 : byt T n eq20 = ((44 : Nat) : Int)
        · skip
          have hsg := hsg27
          have hlhsg27 := byt_lt (T := T) (n := n) (p := eq20) (by omega)
          refine r_callv (M2 := mi_M_isSign) (pc2 := 85) d_M_isAnswer_82 rfl k_M_139 cm_M_isSign cv_M_isSign (sh_761 hS) (by decide) rfl rfl rfl (Nat.le_of_ble_eq_true rfl) (c_M_isSign_y hm24 hn (by omega) hk0 (c := 44) (by omega) hsg (by omega)) (d2 := d - 1) (by omega) (Nat.le_of_eq (Nat.zero_add _)) (Nat.le_of_eq (Nat.zero_add _)) (fun r2 h2 hq2 => ?_)
          obtain ⟨rfl, Iq28, rfl, hzq28, hmq28⟩ := hq2
          refine q_if_eq (tgt := 114) (A := (1 : Int)) (pc2 := 88) d_M_isAnswer_85 rfl rfl (nI_toInt (by omega)) (fun c29 => ?_) (fun c29 => ?_)
          · exfalso; omega
          refine r_aload_n (x := some 761) (pc2 := 89) d_M_isAnswer_88 rfl rfl ?_
          refine r_iconst (v := nI 3) (pc2 := 90) d_M_isAnswer_89 rfl (by decide) ?_
          refine r_iconst (v := nI 0) (pc2 := 91) d_M_isAnswer_90 rfl (by decide) ?_
          refine r_iload_n (pc2 := 92) d_M_isAnswer_91 rfl rfl ?_
          refine r_aload_n (x := some 761) (pc2 := 93) d_M_isAnswer_92 rfl rfl ?_
          refine r_iload_n (pc2 := 94) d_M_isAnswer_93 rfl rfl ?_
          refine r_iconst (v := nI 0) (pc2 := 95) d_M_isAnswer_94 rfl (by decide) ?_
          refine q_callv (M2 := mi_M_of) (pc2 := 98) d_M_isAnswer_95 rfl k_M_76 cm_M_of cv_M_of (sh_761 hS) (by decide) rfl rfl rfl (Nat.le_of_ble_eq_true rfl) (c_M_of (I := Iq28) (F := F) (W := 0) hS hR (by omega)) (d2 := d - 1) (by omega) (Nat.le_of_eq (Nat.zero_add _)) (Nat.le_of_eq (Nat.zero_add _)) ?_
          refine q_top (y := nI 2) ((MS.row hmq28 (a := 762) (by decide) _).trans hG) ?_
          refine q_icmp_gt (tgt := 107) (A := (2 : Int)) (B := (2 : Int)) (pc2 := 101) d_M_isAnswer_98 rfl rfl (nI_toInt (by omega)) (nI_toInt (by omega)) (fun c30 => ?_) (fun c30 => ?_)
          · exfalso; omega
          refine r_sipush (v := nI 333) (pc2 := 104) d_M_isAnswer_101 rfl (by decide) ?_
          refine r_goto (tgt := 108) d_M_isAnswer_104 rfl ?_
          refine r_callv (M2 := mi_M_isNumber) (pc2 := 111) d_M_isAnswer_108 rfl k_M_149 cm_M_isNumber cv_M_isNumber (sh_761 hS) (by decide) rfl rfl rfl (Nat.le_of_ble_eq_true rfl) (c_M_isNumber hmq28 hn (by omega) hk0 (m := 3) (lo := 0) (hi := 333) (by omega) (by omega) (by omega) (by omega)) (d2 := d - 1) (by omega) (Nat.le_of_eq (Nat.zero_add _)) (Nat.le_of_eq (Nat.zero_add _)) (fun r2 h2 hq2 => ?_)
          obtain ⟨Iq31, rfl, hzq31, hxq31⟩ := hq2
          cases hoq31 : nmb T n 3 (eq20 + 1) 0 333 with
          | none =>
            rw [hoq31] at hxq31
            obtain ⟨rfl, hmq31⟩ := hxq31
            refine q_if_ne (tgt := 116) (A := (0 : Int)) (pc2 := 114) d_M_isAnswer_111 rfl rfl (nI_toInt (by omega)) (fun c32 => ?_) (fun c32 => ?_)
            · exfalso; omega
            refine r_iconst (v := nI 0) (pc2 := 115) d_M_isAnswer_114 rfl (by decide) ?_
            refine Run.ret (some (.int (nI 0))) d_M_isAnswer_115 ⟨_, rfl, by decide⟩ ?_
            have e_ : anS T n 2 p = (none, eq20 + 1) := by unfold anS; rw [if_neg (by omega), if_pos (by omega)]; unfold pxA; rw [show prt3 T n (hiT 2 0) (hiT 2 1) (hiT 2 2) (p + 1) = (none, eq20 + 1) from by (show prt3 T n 333 333 0 (p + 1) = _); unfold prt3; rw [hoq20]; dsimp only; rw [if_neg (show ¬ (byt T n eq20 ≠ 44) by omega), hoq31]]
            exact ⟨_, rfl, by rw [e_]; exact ⟨rfl, hmq31⟩⟩
          | some rq31 =>
            obtain ⟨eq31, vq31⟩ := rq31
            rw [hoq31] at hxq31
            obtain ⟨rfl, hmq31, hvq31⟩ := hxq31
            have hnbq31 := nmb_p (by omega) hoq31
            refine q_if_ne (tgt := 116) (A := (1 : Int)) (pc2 := 114) d_M_isAnswer_111 rfl rfl (nI_toInt (by omega)) (fun c33 => ?_) (fun c33 => ?_)
            rotate_left
            · exfalso; omega
            refine r_aload_n (x := some 761) (pc2 := 117) d_M_isAnswer_116 rfl rfl ?_
            refine q_getR (x := some 771) (pc2 := 120) d_M_isAnswer_117 rfl k_M_37 rfl (sh_761 hS) (rf_761_14 hR) ?_
            refine r_iload_n (pc2 := 121) d_M_isAnswer_120 rfl rfl ?_
            refine r_iconst (v := nI 1) (pc2 := 122) d_M_isAnswer_121 rfl (by decide) ?_
            refine q_isubN (pc2 := 123) d_M_isAnswer_122 rfl (by omega) ?_
            refine r_aload_n (x := some 761) (pc2 := 124) d_M_isAnswer_123 rfl rfl ?_
            refine q_getI (x := nI vq31) (pc2 := 127) d_M_isAnswer_124 rfl k_M_122 (by decide) (sh_761 hS) hvq31 ?_
            refine q_iastore (q := 1) (pc2 := 128) d_M_isAnswer_127 rfl (sh_771 hS) (nI_toInt (by omega)) (by omega) (fun I34 hI34 => ?_)
            have hm35 := MS.sr hmq31 hI34
            refine q_iinc (b := 1) (pc2 := 131) d_M_isAnswer_128 rfl rfl (by decide) (Nat.le_of_ble_eq_true rfl) ?_
            refine r_goto (tgt := 69) d_M_isAnswer_131 rfl ?_
            refine r_iload_n (pc2 := 70) d_M_isAnswer_69 rfl rfl ?_
            refine r_iconst (v := nI 3) (pc2 := 71) d_M_isAnswer_70 rfl (by decide) ?_
            refine q_icmp_gt (tgt := 134) (A := (3 : Int)) (B := (3 : Int)) (pc2 := 74) d_M_isAnswer_71 rfl rfl (nI_toInt (by omega)) (nI_toInt (by omega)) (fun c36 => ?_) (fun c36 => ?_)
            · exfalso; omega
            refine r_iload_n (pc2 := 75) d_M_isAnswer_74 rfl rfl ?_
            refine r_iconst (v := nI 1) (pc2 := 76) d_M_isAnswer_75 rfl (by decide) ?_
            refine q_icmp_le (tgt := 88) (A := (3 : Int)) (B := (1 : Int)) (pc2 := 79) d_M_isAnswer_76 rfl rfl (nI_toInt (by omega)) (nI_toInt (by omega)) (fun c37 => ?_) (fun c37 => ?_)
            · exfalso; omega
            refine r_aload_n (x := some 761) (pc2 := 80) d_M_isAnswer_79 rfl rfl ?_
            refine r_bipush (v := nI 44) (pc2 := 82) d_M_isAnswer_80 rfl (by decide) ?_
            by_cases hsg38 : byt T n eq31 = ((44 : Nat) : Int)
            · skip
              have hsg := hsg38
              have hlhsg38 := byt_lt (T := T) (n := n) (p := eq31) (by omega)
              refine r_callv (M2 := mi_M_isSign) (pc2 := 85) d_M_isAnswer_82 rfl k_M_139 cm_M_isSign cv_M_isSign (sh_761 hS) (by decide) rfl rfl rfl (Nat.le_of_ble_eq_true rfl) (c_M_isSign_y hm35 hn (by omega) hk0 (c := 44) (by omega) hsg (by omega)) (d2 := d - 1) (by omega) (Nat.le_of_eq (Nat.zero_add _)) (Nat.le_of_eq (Nat.zero_add _)) (fun r2 h2 hq2 => ?_)
              obtain ⟨rfl, Iq39, rfl, hzq39, hmq39⟩ := hq2
              refine q_if_eq (tgt := 114) (A := (1 : Int)) (pc2 := 88) d_M_isAnswer_85 rfl rfl (nI_toInt (by omega)) (fun c40 => ?_) (fun c40 => ?_)
              · exfalso; omega
              refine r_aload_n (x := some 761) (pc2 := 89) d_M_isAnswer_88 rfl rfl ?_
              refine r_iconst (v := nI 3) (pc2 := 90) d_M_isAnswer_89 rfl (by decide) ?_
              refine r_iconst (v := nI 0) (pc2 := 91) d_M_isAnswer_90 rfl (by decide) ?_
              refine r_iload_n (pc2 := 92) d_M_isAnswer_91 rfl rfl ?_
              refine r_aload_n (x := some 761) (pc2 := 93) d_M_isAnswer_92 rfl rfl ?_
              refine r_iload_n (pc2 := 94) d_M_isAnswer_93 rfl rfl ?_
              refine r_iconst (v := nI 0) (pc2 := 95) d_M_isAnswer_94 rfl (by decide) ?_
              refine q_callv (M2 := mi_M_of) (pc2 := 98) d_M_isAnswer_95 rfl k_M_76 cm_M_of cv_M_of (sh_761 hS) (by decide) rfl rfl rfl (Nat.le_of_ble_eq_true rfl) (c_M_of (I := Iq39) (F := F) (W := 0) hS hR (by omega)) (d2 := d - 1) (by omega) (Nat.le_of_eq (Nat.zero_add _)) (Nat.le_of_eq (Nat.zero_add _)) ?_
              refine q_top (y := nI 2) ((MS.row hmq39 (a := 762) (by decide) _).trans hG) ?_
              refine q_icmp_gt (tgt := 107) (A := (3 : Int)) (B := (2 : Int)) (pc2 := 101) d_M_isAnswer_98 rfl rfl (nI_toInt (by omega)) (nI_toInt (by omega)) (fun c41 => ?_) (fun c41 => ?_)
              rotate_left
              · exfalso; omega
              refine r_iconst (v := nI 0) (pc2 := 108) d_M_isAnswer_107 rfl (by decide) ?_
              refine r_callv (M2 := mi_M_isNumber) (pc2 := 111) d_M_isAnswer_108 rfl k_M_149 cm_M_isNumber cv_M_isNumber (sh_761 hS) (by decide) rfl rfl rfl (Nat.le_of_ble_eq_true rfl) (c_M_isNumber hmq39 hn (by omega) hk0 (m := 3) (lo := 0) (hi := 0) (by omega) (by omega) (by omega) (by omega)) (d2 := d - 1) (by omega) (Nat.le_of_eq (Nat.zero_add _)) (Nat.le_of_eq (Nat.zero_add _)) (fun r2 h2 hq2 => ?_)
              obtain ⟨Iq42, rfl, hzq42, hxq42⟩ := hq2
              cases hoq42 : nmb T n 3 (eq31 + 1) 0 0 with
              | none =>
                rw [hoq42] at hxq42
                obtain ⟨rfl, hmq42⟩ := hxq42
                refine q_if_ne (tgt := 116) (A := (0 : Int)) (pc2 := 114) d_M_isAnswer_111 rfl rfl (nI_toInt (by omega)) (fun c43 => ?_) (fun c43 => ?_)
                · exfalso; omega
                refine r_iconst (v := nI 0) (pc2 := 115) d_M_isAnswer_114 rfl (by decide) ?_
                refine Run.ret (some (.int (nI 0))) d_M_isAnswer_115 ⟨_, rfl, by decide⟩ ?_
                have e_ : anS T n 2 p = (none, eq31 + 1) := by unfold anS; rw [if_neg (by omega), if_pos (by omega)]; unfold pxA; rw [show prt3 T n (hiT 2 0) (hiT 2 1) (hiT 2 2) (p + 1) = (none, eq31 + 1) from by (show prt3 T n 333 333 0 (p + 1) = _); unfold prt3; rw [hoq20]; dsimp only; rw [if_neg (show ¬ (byt T n eq20 ≠ 44) by omega), hoq31]; dsimp only; rw [if_neg (show ¬ (byt T n eq31 ≠ 44) by omega), hoq42]]
                exact ⟨_, rfl, by rw [e_]; exact ⟨rfl, hmq42⟩⟩
              | some rq42 =>
                obtain ⟨eq42, vq42⟩ := rq42
                rw [hoq42] at hxq42
                obtain ⟨rfl, hmq42, hvq42⟩ := hxq42
                have hnbq42 := nmb_p (by omega) hoq42
                refine q_if_ne (tgt := 116) (A := (1 : Int)) (pc2 := 114) d_M_isAnswer_111 rfl rfl (nI_toInt (by omega)) (fun c44 => ?_) (fun c44 => ?_)
                rotate_left
                · exfalso; omega
                refine r_aload_n (x := some 761) (pc2 := 117) d_M_isAnswer_116 rfl rfl ?_
                refine q_getR (x := some 771) (pc2 := 120) d_M_isAnswer_117 rfl k_M_37 rfl (sh_761 hS) (rf_761_14 hR) ?_
                refine r_iload_n (pc2 := 121) d_M_isAnswer_120 rfl rfl ?_
                refine r_iconst (v := nI 1) (pc2 := 122) d_M_isAnswer_121 rfl (by decide) ?_
                refine q_isubN (pc2 := 123) d_M_isAnswer_122 rfl (by omega) ?_
                refine r_aload_n (x := some 761) (pc2 := 124) d_M_isAnswer_123 rfl rfl ?_
                refine q_getI (x := nI vq42) (pc2 := 127) d_M_isAnswer_124 rfl k_M_122 (by decide) (sh_761 hS) hvq42 ?_
                refine q_iastore (q := 2) (pc2 := 128) d_M_isAnswer_127 rfl (sh_771 hS) (nI_toInt (by omega)) (by omega) (fun I45 hI45 => ?_)
                have hm46 := MS.sr hmq42 hI45
                refine q_iinc (b := 1) (pc2 := 131) d_M_isAnswer_128 rfl rfl (by decide) (Nat.le_of_ble_eq_true rfl) ?_
                refine r_goto (tgt := 69) d_M_isAnswer_131 rfl ?_
                refine r_iload_n (pc2 := 70) d_M_isAnswer_69 rfl rfl ?_
                refine r_iconst (v := nI 3) (pc2 := 71) d_M_isAnswer_70 rfl (by decide) ?_
                refine q_icmp_gt (tgt := 134) (A := (4 : Int)) (B := (3 : Int)) (pc2 := 74) d_M_isAnswer_71 rfl rfl (nI_toInt (by omega)) (nI_toInt (by omega)) (fun c47 => ?_) (fun c47 => ?_)
                rotate_left
                · exfalso; omega
                refine r_iconst (v := nI 1) (pc2 := 135) d_M_isAnswer_134 rfl (by decide) ?_
                refine Run.ret (some (.int (nI 1))) d_M_isAnswer_135 ⟨_, rfl, by decide⟩ ?_
                have e_ : anS T n 2 p = (some (Sum.inr (vq20, vq31, vq42)), eq42) := by unfold anS; rw [if_neg (by omega), if_pos (by omega)]; unfold pxA; rw [show prt3 T n (hiT 2 0) (hiT 2 1) (hiT 2 2) (p + 1) = (some (vq20, vq31, vq42), eq42) from by (show prt3 T n 333 333 0 (p + 1) = _); unfold prt3; rw [hoq20]; dsimp only; rw [if_neg (show ¬ (byt T n eq20 ≠ 44) by omega), hoq31]; dsimp only; rw [if_neg (show ¬ (byt T n eq31 ≠ 44) by omega), hoq42]]
                exact ⟨_, rfl, by rw [e_]; exact ⟨rfl, hm46, fun k hk => match k, hk with | 0, _ => (rd_nk hI45 (by decide)).trans ((hzq42 771 0 (by decide)).trans ((hzq39 771 0 (by decide)).trans ((rd_nk hI34 (by decide)).trans ((hzq31 771 0 (by decide)).trans ((hzq28 771 0 (by decide)).trans (rd_eq hI23)))))) | 1, _ => (rd_nk hI45 (by decide)).trans ((hzq42 771 1 (by decide)).trans ((hzq39 771 1 (by decide)).trans (rd_eq hI34))) | 2, _ => rd_eq hI45 | k + 3, h => absurd h (by omega)⟩⟩
            · skip
              have hsg := hsg38
              refine q_callv (M2 := mi_M_isSign) (pc2 := 85) d_M_isAnswer_82 rfl k_M_139 cm_M_isSign cv_M_isSign (sh_761 hS) (by decide) rfl rfl rfl (Nat.le_of_ble_eq_true rfl) (c_M_isSign_n hm35 hn (by omega) hk0 (c := 44) (by omega) hsg (by omega)) (d2 := d - 1) (by omega) (Nat.le_of_eq (Nat.zero_add _)) (Nat.le_of_eq (Nat.zero_add _)) ?_
              refine q_if_eq (tgt := 114) (A := (0 : Int)) (pc2 := 88) d_M_isAnswer_85 rfl rfl (nI_toInt (by omega)) (fun c48 => ?_) (fun c48 => ?_)
              rotate_left
              · exfalso; omega
              refine r_iconst (v := nI 0) (pc2 := 115) d_M_isAnswer_114 rfl (by decide) ?_
              refine Run.ret (some (.int (nI 0))) d_M_isAnswer_115 ⟨_, rfl, by decide⟩ ?_
              have e_ : anS T n 2 p = (none, eq31) := by unfold anS; rw [if_neg (by omega), if_pos (by omega)]; unfold pxA; rw [show prt3 T n (hiT 2 0) (hiT 2 1) (hiT 2 2) (p + 1) = (none, eq31) from by (show prt3 T n 333 333 0 (p + 1) = _); unfold prt3; rw [hoq20]; dsimp only; rw [if_neg (show ¬ (byt T n eq20 ≠ 44) by omega), hoq31]; dsimp only; rw [if_pos (by omega)]]
              exact ⟨_, rfl, by rw [e_]; exact ⟨rfl, hm35⟩⟩
        · skip
          have hsg := hsg27
          refine q_callv (M2 := mi_M_isSign) (pc2 := 85) d_M_isAnswer_82 rfl k_M_139 cm_M_isSign cv_M_isSign (sh_761 hS) (by decide) rfl rfl rfl (Nat.le_of_ble_eq_true rfl) (c_M_isSign_n hm24 hn (by omega) hk0 (c := 44) (by omega) hsg (by omega)) (d2 := d - 1) (by omega) (Nat.le_of_eq (Nat.zero_add _)) (Nat.le_of_eq (Nat.zero_add _)) ?_
          refine q_if_eq (tgt := 114) (A := (0 : Int)) (pc2 := 88) d_M_isAnswer_85 rfl rfl (nI_toInt (by omega)) (fun c49 => ?_) (fun c49 => ?_)
          rotate_left
          · exfalso; omega
          refine r_iconst (v := nI 0) (pc2 := 115) d_M_isAnswer_114 rfl (by decide) ?_
          refine Run.ret (some (.int (nI 0))) d_M_isAnswer_115 ⟨_, rfl, by decide⟩ ?_
          have e_ : anS T n 2 p = (none, eq20) := by unfold anS; rw [if_neg (by omega), if_pos (by omega)]; unfold pxA; rw [show prt3 T n (hiT 2 0) (hiT 2 1) (hiT 2 2) (p + 1) = (none, eq20) from by (show prt3 T n 333 333 0 (p + 1) = _); unfold prt3; rw [hoq20]; dsimp only; rw [if_pos (by omega)]]
          exact ⟨_, rfl, by rw [e_]; exact ⟨rfl, hm24⟩⟩
    · skip
      have hsg := hsg14
      refine q_callv (M2 := mi_M_isSign) (pc2 := 62) d_M_isAnswer_59 rfl k_M_139 cm_M_isSign cv_M_isSign (sh_761 hS) (by decide) rfl rfl rfl (Nat.le_of_ble_eq_true rfl) (c_M_isSign_n hm hn (by omega) hk0 (c := 37) (by omega) hsg (by omega)) (d2 := d - 1) (by omega) (Nat.le_of_eq (Nat.zero_add _)) (Nat.le_of_eq (Nat.zero_add _)) ?_
      refine q_if_ne (tgt := 67) (A := (0 : Int)) (pc2 := 65) d_M_isAnswer_62 rfl rfl (nI_toInt (by omega)) (fun c50 => ?_) (fun c50 => ?_)
      · exfalso; omega
      refine r_iconst (v := nI 0) (pc2 := 66) d_M_isAnswer_65 rfl (by decide) ?_
      refine Run.ret (some (.int (nI 0))) d_M_isAnswer_66 ⟨_, rfl, by decide⟩ ?_
      have e_ : anS T n 2 p = (none, p) := by unfold anS; rw [if_neg (by omega), if_neg (by omega)]
      exact ⟨_, rfl, by rw [e_]; exact ⟨rfl, hm⟩⟩
theorem c_M_isAnswer_3 {d : Nat} {B : HS} {A0 A : A4} {k0 n p nk : Nat} {T : Nat → Int32} {ns : List Nd} {I : Nat → Nat → Int32} {R : Nat → Nat → Option Nat} {L : Nat → Nat → Int64} {sh : Nat → Nat × Nat} {N : Nat} (hm : MS B A0 k0 n T p nk ns A (I, R, L, sh, N)) (hn : n ≤ 250) (hp : p ≤ n) (hk0 : k0 ≤ 1000) {F : Nat} (hF : F < 12) (hG : B.1 762 (174 + 84 * F + 0) = nI 3) (hd : 4 ≤ d) : Mt mi_M_isAnswer d 0 0 [.ref 761, .int (nI F)] (I, R, L, sh, N) (fun x h2 => ∃ K, h2 = (K, R, L, sh, N) ∧ AnM B A0 k0 n T nk ns A (anS T n 3 p) x (K, R, L, sh, N)) := by
  obtain ⟨-, -, -, -, -, -, -, -, hS, hR, -⟩ := id hm
  dsimp only at hS hR
  refine Mt.of pn_M (Nat.le_of_ble_eq_true rfl) ?_
  show Run mi_M_isAnswer d 0 0 0 [(0, .ref 761), (1, .int (nI F))] [] (I, R, L, sh, N) _
  refine r_aload_n (x := some 761) (pc2 := 1) d_M_isAnswer_0 rfl rfl ?_
  refine r_bipush (v := nI 58) (pc2 := 3) d_M_isAnswer_1 rfl (by decide) ?_
  by_cases hsg1 : byt T n p = ((58 : Nat) : Int)
  · skip
    have hsg := hsg1
    have hlhsg1 := byt_lt (T := T) (n := n) (p := p) (by omega)
    refine r_callv (M2 := mi_M_isSign) (pc2 := 6) d_M_isAnswer_3 rfl k_M_139 cm_M_isSign cv_M_isSign (sh_761 hS) (by decide) rfl rfl rfl (Nat.le_of_ble_eq_true rfl) (c_M_isSign_y hm hn (by omega) hk0 (c := 58) (by omega) hsg (by omega)) (d2 := d - 1) (by omega) (Nat.le_of_eq (Nat.zero_add _)) (Nat.le_of_eq (Nat.zero_add _)) (fun r2 h2 hq2 => ?_)
    obtain ⟨rfl, Iq2, rfl, hzq2, hmq2⟩ := hq2
    refine q_if_eq (tgt := 56) (A := (1 : Int)) (pc2 := 9) d_M_isAnswer_6 rfl rfl (nI_toInt (by omega)) (fun c3 => ?_) (fun c3 => ?_)
    · exfalso; omega
    refine r_aload_n (x := some 761) (pc2 := 10) d_M_isAnswer_9 rfl rfl ?_
    refine r_iconst (v := nI 1) (pc2 := 11) d_M_isAnswer_10 rfl (by decide) ?_
    refine r_iconst (v := nI 0) (pc2 := 12) d_M_isAnswer_11 rfl (by decide) ?_
    refine r_aload_n (x := some 761) (pc2 := 13) d_M_isAnswer_12 rfl rfl ?_
    refine r_iload_n (pc2 := 14) d_M_isAnswer_13 rfl rfl ?_
    refine r_iconst (v := nI 0) (pc2 := 15) d_M_isAnswer_14 rfl (by decide) ?_
    refine q_callv (M2 := mi_M_of) (pc2 := 18) d_M_isAnswer_15 rfl k_M_76 cm_M_of cv_M_of (sh_761 hS) (by decide) rfl rfl rfl (Nat.le_of_ble_eq_true rfl) (c_M_of (I := Iq2) (F := F) (W := 0) hS hR (by omega)) (d2 := d - 1) (by omega) (Nat.le_of_eq (Nat.zero_add _)) (Nat.le_of_eq (Nat.zero_add _)) ?_
    refine q_top (y := nI 3) ((MS.row hmq2 (a := 762) (by decide) _).trans hG) ?_
    refine r_callv (M2 := mi_M_isNumber) (pc2 := 21) d_M_isAnswer_18 rfl k_M_149 cm_M_isNumber cv_M_isNumber (sh_761 hS) (by decide) rfl rfl rfl (Nat.le_of_ble_eq_true rfl) (c_M_isNumber hmq2 hn (by omega) hk0 (m := 1) (lo := 0) (hi := 3) (by omega) (by omega) (by omega) (by omega)) (d2 := d - 1) (by omega) (Nat.le_of_eq (Nat.zero_add _)) (Nat.le_of_eq (Nat.zero_add _)) (fun r2 h2 hq2 => ?_)
    obtain ⟨Iq4, rfl, hzq4, hxq4⟩ := hq2
    cases hoq4 : nmb T n 1 (p + 1) 0 3 with
    | none =>
      rw [hoq4] at hxq4
      obtain ⟨rfl, hmq4⟩ := hxq4
      refine q_if_ne (tgt := 26) (A := (0 : Int)) (pc2 := 24) d_M_isAnswer_21 rfl rfl (nI_toInt (by omega)) (fun c5 => ?_) (fun c5 => ?_)
      · exfalso; omega
      refine r_iconst (v := nI 0) (pc2 := 25) d_M_isAnswer_24 rfl (by decide) ?_
      refine Run.ret (some (.int (nI 0))) d_M_isAnswer_25 ⟨_, rfl, by decide⟩ ?_
      have e_ : anS T n 3 p = (none, p + 1) := by unfold anS; rw [if_pos (by omega)]; unfold fxA; rw [hoq4]
      exact ⟨_, rfl, by rw [e_]; exact ⟨rfl, hmq4⟩⟩
    | some rq4 =>
      obtain ⟨eq4, vq4⟩ := rq4
      rw [hoq4] at hxq4
      obtain ⟨rfl, hmq4, hvq4⟩ := hxq4
      have hnbq4 := nmb_p (by omega) hoq4
      refine q_if_ne (tgt := 26) (A := (1 : Int)) (pc2 := 24) d_M_isAnswer_21 rfl rfl (nI_toInt (by omega)) (fun c6 => ?_) (fun c6 => ?_)
      rotate_left
      · exfalso; omega
      refine r_aload_n (x := some 761) (pc2 := 27) d_M_isAnswer_26 rfl rfl ?_
      refine q_getR (x := some 771) (pc2 := 30) d_M_isAnswer_27 rfl k_M_37 rfl (sh_761 hS) (rf_761_14 hR) ?_
      refine r_iconst (v := nI 0) (pc2 := 31) d_M_isAnswer_30 rfl (by decide) ?_
      refine r_sipush (v := nI 1000) (pc2 := 34) d_M_isAnswer_31 rfl (by decide) ?_
      refine r_aload_n (x := some 761) (pc2 := 35) d_M_isAnswer_34 rfl rfl ?_
      refine q_getI (x := nI vq4) (pc2 := 38) d_M_isAnswer_35 rfl k_M_122 (by decide) (sh_761 hS) hvq4 ?_
      refine q_iaddN (pc2 := 39) d_M_isAnswer_38 rfl ?_
      refine q_iastore (q := 0) (pc2 := 40) d_M_isAnswer_39 rfl (sh_771 hS) (nI_toInt (by omega)) (by omega) (fun I7 hI7 => ?_)
      have hm8 := MS.sr hmq4 hI7
      refine r_aload_n (x := some 761) (pc2 := 41) d_M_isAnswer_40 rfl rfl ?_
      refine q_getR (x := some 771) (pc2 := 44) d_M_isAnswer_41 rfl k_M_37 rfl (sh_761 hS) (rf_761_14 hR) ?_
      refine r_iconst (v := nI 1) (pc2 := 45) d_M_isAnswer_44 rfl (by decide) ?_
      refine r_iconst (v := nI 0) (pc2 := 46) d_M_isAnswer_45 rfl (by decide) ?_
      refine q_iastore (q := 1) (pc2 := 47) d_M_isAnswer_46 rfl (sh_771 hS) (nI_toInt (by omega)) (by omega) (fun I9 hI9 => ?_)
      have hm10 := MS.sr hm8 hI9
      refine r_aload_n (x := some 761) (pc2 := 48) d_M_isAnswer_47 rfl rfl ?_
      refine q_getR (x := some 771) (pc2 := 51) d_M_isAnswer_48 rfl k_M_37 rfl (sh_761 hS) (rf_761_14 hR) ?_
      refine r_iconst (v := nI 2) (pc2 := 52) d_M_isAnswer_51 rfl (by decide) ?_
      refine r_iconst (v := nI 0) (pc2 := 53) d_M_isAnswer_52 rfl (by decide) ?_
      refine q_iastore (q := 2) (pc2 := 54) d_M_isAnswer_53 rfl (sh_771 hS) (nI_toInt (by omega)) (by omega) (fun I11 hI11 => ?_)
      have hm12 := MS.sr hm10 hI11
      refine r_iconst (v := nI 1) (pc2 := 55) d_M_isAnswer_54 rfl (by decide) ?_
      refine Run.ret (some (.int (nI 1))) d_M_isAnswer_55 ⟨_, rfl, by decide⟩ ?_
      have e_ : anS T n 3 p = (some (Sum.inl vq4), eq4) := by unfold anS; rw [if_pos (by omega)]; unfold fxA; rw [hoq4]
      exact ⟨_, rfl, by rw [e_]; exact ⟨rfl, hm12, fun k hk => match k, hk with | 0, _ => (rd_nk hI11 (by decide)).trans ((rd_nk hI9 (by decide)).trans (rd_eq hI7)) | 1, _ => (rd_nk hI11 (by decide)).trans (rd_eq hI9) | 2, _ => rd_eq hI11 | k + 3, h => absurd h (by omega)⟩⟩
  · skip
    have hsg := hsg1
    refine q_callv (M2 := mi_M_isSign) (pc2 := 6) d_M_isAnswer_3 rfl k_M_139 cm_M_isSign cv_M_isSign (sh_761 hS) (by decide) rfl rfl rfl (Nat.le_of_ble_eq_true rfl) (c_M_isSign_n hm hn (by omega) hk0 (c := 58) (by omega) hsg (by omega)) (d2 := d - 1) (by omega) (Nat.le_of_eq (Nat.zero_add _)) (Nat.le_of_eq (Nat.zero_add _)) ?_
    refine q_if_eq (tgt := 56) (A := (0 : Int)) (pc2 := 9) d_M_isAnswer_6 rfl rfl (nI_toInt (by omega)) (fun c13 => ?_) (fun c13 => ?_)
    rotate_left
    · exfalso; omega
    refine r_aload_n (x := some 761) (pc2 := 57) d_M_isAnswer_56 rfl rfl ?_
    refine r_bipush (v := nI 37) (pc2 := 59) d_M_isAnswer_57 rfl (by decide) ?_
    by_cases hsg14 : byt T n p = ((37 : Nat) : Int)
    · skip
      have hsg := hsg14
      have hlhsg14 := byt_lt (T := T) (n := n) (p := p) (by omega)
      refine r_callv (M2 := mi_M_isSign) (pc2 := 62) d_M_isAnswer_59 rfl k_M_139 cm_M_isSign cv_M_isSign (sh_761 hS) (by decide) rfl rfl rfl (Nat.le_of_ble_eq_true rfl) (c_M_isSign_y hm hn (by omega) hk0 (c := 37) (by omega) hsg (by omega)) (d2 := d - 1) (by omega) (Nat.le_of_eq (Nat.zero_add _)) (Nat.le_of_eq (Nat.zero_add _)) (fun r2 h2 hq2 => ?_)
      obtain ⟨rfl, Iq15, rfl, hzq15, hmq15⟩ := hq2
      refine q_if_ne (tgt := 67) (A := (1 : Int)) (pc2 := 65) d_M_isAnswer_62 rfl rfl (nI_toInt (by omega)) (fun c16 => ?_) (fun c16 => ?_)
      rotate_left
      · exfalso; omega
      refine r_iconst (v := nI 1) (pc2 := 68) d_M_isAnswer_67 rfl (by decide) ?_
      refine r_istore_n (pc2 := 69) d_M_isAnswer_68 rfl rfl (Nat.le_of_ble_eq_true rfl) ?_
      refine r_iload_n (pc2 := 70) d_M_isAnswer_69 rfl rfl ?_
      refine r_iconst (v := nI 3) (pc2 := 71) d_M_isAnswer_70 rfl (by decide) ?_
      refine q_icmp_gt (tgt := 134) (A := (1 : Int)) (B := (3 : Int)) (pc2 := 74) d_M_isAnswer_71 rfl rfl (nI_toInt (by omega)) (nI_toInt (by omega)) (fun c17 => ?_) (fun c17 => ?_)
      · exfalso; omega
      refine r_iload_n (pc2 := 75) d_M_isAnswer_74 rfl rfl ?_
      refine r_iconst (v := nI 1) (pc2 := 76) d_M_isAnswer_75 rfl (by decide) ?_
      refine q_icmp_le (tgt := 88) (A := (1 : Int)) (B := (1 : Int)) (pc2 := 79) d_M_isAnswer_76 rfl rfl (nI_toInt (by omega)) (nI_toInt (by omega)) (fun c18 => ?_) (fun c18 => ?_)
      rotate_left
      · exfalso; omega
      refine r_aload_n (x := some 761) (pc2 := 89) d_M_isAnswer_88 rfl rfl ?_
      refine r_iconst (v := nI 3) (pc2 := 90) d_M_isAnswer_89 rfl (by decide) ?_
      refine r_iconst (v := nI 0) (pc2 := 91) d_M_isAnswer_90 rfl (by decide) ?_
      refine r_iload_n (pc2 := 92) d_M_isAnswer_91 rfl rfl ?_
      refine r_aload_n (x := some 761) (pc2 := 93) d_M_isAnswer_92 rfl rfl ?_
      refine r_iload_n (pc2 := 94) d_M_isAnswer_93 rfl rfl ?_
      refine r_iconst (v := nI 0) (pc2 := 95) d_M_isAnswer_94 rfl (by decide) ?_
      refine q_callv (M2 := mi_M_of) (pc2 := 98) d_M_isAnswer_95 rfl k_M_76 cm_M_of cv_M_of (sh_761 hS) (by decide) rfl rfl rfl (Nat.le_of_ble_eq_true rfl) (c_M_of (I := Iq15) (F := F) (W := 0) hS hR (by omega)) (d2 := d - 1) (by omega) (Nat.le_of_eq (Nat.zero_add _)) (Nat.le_of_eq (Nat.zero_add _)) ?_
      refine q_top (y := nI 3) ((MS.row hmq15 (a := 762) (by decide) _).trans hG) ?_
      refine q_icmp_gt (tgt := 107) (A := (1 : Int)) (B := (3 : Int)) (pc2 := 101) d_M_isAnswer_98 rfl rfl (nI_toInt (by omega)) (nI_toInt (by omega)) (fun c19 => ?_) (fun c19 => ?_)
      · exfalso; omega
      refine r_sipush (v := nI 333) (pc2 := 104) d_M_isAnswer_101 rfl (by decide) ?_
      refine r_goto (tgt := 108) d_M_isAnswer_104 rfl ?_
      refine r_callv (M2 := mi_M_isNumber) (pc2 := 111) d_M_isAnswer_108 rfl k_M_149 cm_M_isNumber cv_M_isNumber (sh_761 hS) (by decide) rfl rfl rfl (Nat.le_of_ble_eq_true rfl) (c_M_isNumber hmq15 hn (by omega) hk0 (m := 3) (lo := 0) (hi := 333) (by omega) (by omega) (by omega) (by omega)) (d2 := d - 1) (by omega) (Nat.le_of_eq (Nat.zero_add _)) (Nat.le_of_eq (Nat.zero_add _)) (fun r2 h2 hq2 => ?_)
      obtain ⟨Iq20, rfl, hzq20, hxq20⟩ := hq2
      cases hoq20 : nmb T n 3 (p + 1) 0 333 with
      | none =>
        rw [hoq20] at hxq20
        obtain ⟨rfl, hmq20⟩ := hxq20
        refine q_if_ne (tgt := 116) (A := (0 : Int)) (pc2 := 114) d_M_isAnswer_111 rfl rfl (nI_toInt (by omega)) (fun c21 => ?_) (fun c21 => ?_)
        · exfalso; omega
        refine r_iconst (v := nI 0) (pc2 := 115) d_M_isAnswer_114 rfl (by decide) ?_
        refine Run.ret (some (.int (nI 0))) d_M_isAnswer_115 ⟨_, rfl, by decide⟩ ?_
        have e_ : anS T n 3 p = (none, p + 1) := by unfold anS; rw [if_neg (by omega), if_pos (by omega)]; unfold pxA; rw [show prt3 T n (hiT 3 0) (hiT 3 1) (hiT 3 2) (p + 1) = (none, p + 1) from by (show prt3 T n 333 333 333 (p + 1) = _); unfold prt3; rw [hoq20]]
        exact ⟨_, rfl, by rw [e_]; exact ⟨rfl, hmq20⟩⟩
      | some rq20 =>
        obtain ⟨eq20, vq20⟩ := rq20
        rw [hoq20] at hxq20
        obtain ⟨rfl, hmq20, hvq20⟩ := hxq20
        have hnbq20 := nmb_p (by omega) hoq20
        refine q_if_ne (tgt := 116) (A := (1 : Int)) (pc2 := 114) d_M_isAnswer_111 rfl rfl (nI_toInt (by omega)) (fun c22 => ?_) (fun c22 => ?_)
        rotate_left
        · exfalso; omega
        refine r_aload_n (x := some 761) (pc2 := 117) d_M_isAnswer_116 rfl rfl ?_
        refine q_getR (x := some 771) (pc2 := 120) d_M_isAnswer_117 rfl k_M_37 rfl (sh_761 hS) (rf_761_14 hR) ?_
        refine r_iload_n (pc2 := 121) d_M_isAnswer_120 rfl rfl ?_
        refine r_iconst (v := nI 1) (pc2 := 122) d_M_isAnswer_121 rfl (by decide) ?_
        refine q_isubN (pc2 := 123) d_M_isAnswer_122 rfl (by omega) ?_
        refine r_aload_n (x := some 761) (pc2 := 124) d_M_isAnswer_123 rfl rfl ?_
        refine q_getI (x := nI vq20) (pc2 := 127) d_M_isAnswer_124 rfl k_M_122 (by decide) (sh_761 hS) hvq20 ?_
        refine q_iastore (q := 0) (pc2 := 128) d_M_isAnswer_127 rfl (sh_771 hS) (nI_toInt (by omega)) (by omega) (fun I23 hI23 => ?_)
        have hm24 := MS.sr hmq20 hI23
        refine q_iinc (b := 1) (pc2 := 131) d_M_isAnswer_128 rfl rfl (by decide) (Nat.le_of_ble_eq_true rfl) ?_
        refine r_goto (tgt := 69) d_M_isAnswer_131 rfl ?_
        refine r_iload_n (pc2 := 70) d_M_isAnswer_69 rfl rfl ?_
        refine r_iconst (v := nI 3) (pc2 := 71) d_M_isAnswer_70 rfl (by decide) ?_
        refine q_icmp_gt (tgt := 134) (A := (2 : Int)) (B := (3 : Int)) (pc2 := 74) d_M_isAnswer_71 rfl rfl (nI_toInt (by omega)) (nI_toInt (by omega)) (fun c25 => ?_) (fun c25 => ?_)
        · exfalso; omega
        refine r_iload_n (pc2 := 75) d_M_isAnswer_74 rfl rfl ?_
        refine r_iconst (v := nI 1) (pc2 := 76) d_M_isAnswer_75 rfl (by decide) ?_
        refine q_icmp_le (tgt := 88) (A := (2 : Int)) (B := (1 : Int)) (pc2 := 79) d_M_isAnswer_76 rfl rfl (nI_toInt (by omega)) (nI_toInt (by omega)) (fun c26 => ?_) (fun c26 => ?_)
        · exfalso; omega
        refine r_aload_n (x := some 761) (pc2 := 80) d_M_isAnswer_79 rfl rfl ?_
        refine r_bipush (v := nI 44) (pc2 := 82) d_M_isAnswer_80 rfl (by decide) ?_
        by_cases hsg27 : byt T n eq20 = ((44 : Nat) : Int)
        · skip
          have hsg := hsg27
          have hlhsg27 := byt_lt (T := T) (n := n) (p := eq20) (by omega)
          refine r_callv (M2 := mi_M_isSign) (pc2 := 85) d_M_isAnswer_82 rfl k_M_139 cm_M_isSign cv_M_isSign (sh_761 hS) (by decide) rfl rfl rfl (Nat.le_of_ble_eq_true rfl) (c_M_isSign_y hm24 hn (by omega) hk0 (c := 44) (by omega) hsg (by omega)) (d2 := d - 1) (by omega) (Nat.le_of_eq (Nat.zero_add _)) (Nat.le_of_eq (Nat.zero_add _)) (fun r2 h2 hq2 => ?_)
          obtain ⟨rfl, Iq28, rfl, hzq28, hmq28⟩ := hq2
          refine q_if_eq (tgt := 114) (A := (1 : Int)) (pc2 := 88) d_M_isAnswer_85 rfl rfl (nI_toInt (by omega)) (fun c29 => ?_) (fun c29 => ?_)
          · exfalso; omega
          refine r_aload_n (x := some 761) (pc2 := 89) d_M_isAnswer_88 rfl rfl ?_
          refine r_iconst (v := nI 3) (pc2 := 90) d_M_isAnswer_89 rfl (by decide) ?_
          refine r_iconst (v := nI 0) (pc2 := 91) d_M_isAnswer_90 rfl (by decide) ?_
          refine r_iload_n (pc2 := 92) d_M_isAnswer_91 rfl rfl ?_
          refine r_aload_n (x := some 761) (pc2 := 93) d_M_isAnswer_92 rfl rfl ?_
          refine r_iload_n (pc2 := 94) d_M_isAnswer_93 rfl rfl ?_
          refine r_iconst (v := nI 0) (pc2 := 95) d_M_isAnswer_94 rfl (by decide) ?_
          refine q_callv (M2 := mi_M_of) (pc2 := 98) d_M_isAnswer_95 rfl k_M_76 cm_M_of cv_M_of (sh_761 hS) (by decide) rfl rfl rfl (Nat.le_of_ble_eq_true rfl) (c_M_of (I := Iq28) (F := F) (W := 0) hS hR (by omega)) (d2 := d - 1) (by omega) (Nat.le_of_eq (Nat.zero_add _)) (Nat.le_of_eq (Nat.zero_add _)) ?_
          refine q_top (y := nI 3) ((MS.row hmq28 (a := 762) (by decide) _).trans hG) ?_
          refine q_icmp_gt (tgt := 107) (A := (2 : Int)) (B := (3 : Int)) (pc2 := 101) d_M_isAnswer_98 rfl rfl (nI_toInt (by omega)) (nI_toInt (by omega)) (fun c30 => ?_) (fun c30 => ?_)
          · exfalso; omega
          refine r_sipush (v := nI 333) (pc2 := 104) d_M_isAnswer_101 rfl (by decide) ?_
          refine r_goto (tgt := 108) d_M_isAnswer_104 rfl ?_
          refine r_callv (M2 := mi_M_isNumber) (pc2 := 111) d_M_isAnswer_108 rfl k_M_149 cm_M_isNumber cv_M_isNumber (sh_761 hS) (by decide) rfl rfl rfl (Nat.le_of_ble_eq_true rfl) (c_M_isNumber hmq28 hn (by omega) hk0 (m := 3) (lo := 0) (hi := 333) (by omega) (by omega) (by omega) (by omega)) (d2 := d - 1) (by omega) (Nat.le_of_eq (Nat.zero_add _)) (Nat.le_of_eq (Nat.zero_add _)) (fun r2 h2 hq2 => ?_)
          obtain ⟨Iq31, rfl, hzq31, hxq31⟩ := hq2
          cases hoq31 : nmb T n 3 (eq20 + 1) 0 333 with
          | none =>
            rw [hoq31] at hxq31
            obtain ⟨rfl, hmq31⟩ := hxq31
            refine q_if_ne (tgt := 116) (A := (0 : Int)) (pc2 := 114) d_M_isAnswer_111 rfl rfl (nI_toInt (by omega)) (fun c32 => ?_) (fun c32 => ?_)
            · exfalso; omega
            refine r_iconst (v := nI 0) (pc2 := 115) d_M_isAnswer_114 rfl (by decide) ?_
            refine Run.ret (some (.int (nI 0))) d_M_isAnswer_115 ⟨_, rfl, by decide⟩ ?_
            have e_ : anS T n 3 p = (none, eq20 + 1) := by unfold anS; rw [if_neg (by omega), if_pos (by omega)]; unfold pxA; rw [show prt3 T n (hiT 3 0) (hiT 3 1) (hiT 3 2) (p + 1) = (none, eq20 + 1) from by (show prt3 T n 333 333 333 (p + 1) = _); unfold prt3; rw [hoq20]; dsimp only; rw [if_neg (show ¬ (byt T n eq20 ≠ 44) by omega), hoq31]]
            exact ⟨_, rfl, by rw [e_]; exact ⟨rfl, hmq31⟩⟩
          | some rq31 =>
            obtain ⟨eq31, vq31⟩ := rq31
            rw [hoq31] at hxq31
            obtain ⟨rfl, hmq31, hvq31⟩ := hxq31
            have hnbq31 := nmb_p (by omega) hoq31
            refine q_if_ne (tgt := 116) (A := (1 : Int)) (pc2 := 114) d_M_isAnswer_111 rfl rfl (nI_toInt (by omega)) (fun c33 => ?_) (fun c33 => ?_)
            rotate_left
            · exfalso; omega
            refine r_aload_n (x := some 761) (pc2 := 117) d_M_isAnswer_116 rfl rfl ?_
            refine q_getR (x := some 771) (pc2 := 120) d_M_isAnswer_117 rfl k_M_37 rfl (sh_761 hS) (rf_761_14 hR) ?_
            refine r_iload_n (pc2 := 121) d_M_isAnswer_120 rfl rfl ?_
            refine r_iconst (v := nI 1) (pc2 := 122) d_M_isAnswer_121 rfl (by decide) ?_
            refine q_isubN (pc2 := 123) d_M_isAnswer_122 rfl (by omega) ?_
            refine r_aload_n (x := some 761) (pc2 := 124) d_M_isAnswer_123 rfl rfl ?_
            refine q_getI (x := nI vq31) (pc2 := 127) d_M_isAnswer_124 rfl k_M_122 (by decide) (sh_761 hS) hvq31 ?_
            refine q_iastore (q := 1) (pc2 := 128) d_M_isAnswer_127 rfl (sh_771 hS) (nI_toInt (by omega)) (by omega) (fun I34 hI34 => ?_)
            have hm35 := MS.sr hmq31 hI34
            refine q_iinc (b := 1) (pc2 := 131) d_M_isAnswer_128 rfl rfl (by decide) (Nat.le_of_ble_eq_true rfl) ?_
            refine r_goto (tgt := 69) d_M_isAnswer_131 rfl ?_
            refine r_iload_n (pc2 := 70) d_M_isAnswer_69 rfl rfl ?_
            refine r_iconst (v := nI 3) (pc2 := 71) d_M_isAnswer_70 rfl (by decide) ?_
            refine q_icmp_gt (tgt := 134) (A := (3 : Int)) (B := (3 : Int)) (pc2 := 74) d_M_isAnswer_71 rfl rfl (nI_toInt (by omega)) (nI_toInt (by omega)) (fun c36 => ?_) (fun c36 => ?_)
            · exfalso; omega
            refine r_iload_n (pc2 := 75) d_M_isAnswer_74 rfl rfl ?_
            refine r_iconst (v := nI 1) (pc2 := 76) d_M_isAnswer_75 rfl (by decide) ?_
            refine q_icmp_le (tgt := 88) (A := (3 : Int)) (B := (1 : Int)) (pc2 := 79) d_M_isAnswer_76 rfl rfl (nI_toInt (by omega)) (nI_toInt (by omega)) (fun c37 => ?_) (fun c37 => ?_)
            · exfalso; omega
            refine r_aload_n (x := some 761) (pc2 := 80) d_M_isAnswer_79 rfl rfl ?_
            refine r_bipush (v := nI 44) (pc2 := 82) d_M_isAnswer_80 rfl (by decide) ?_
            by_cases hsg38 : byt T n eq31 = ((44 : Nat) : Int)
            · skip
              have hsg := hsg38
              have hlhsg38 := byt_lt (T := T) (n := n) (p := eq31) (by omega)
              refine r_callv (M2 := mi_M_isSign) (pc2 := 85) d_M_isAnswer_82 rfl k_M_139 cm_M_isSign cv_M_isSign (sh_761 hS) (by decide) rfl rfl rfl (Nat.le_of_ble_eq_true rfl) (c_M_isSign_y hm35 hn (by omega) hk0 (c := 44) (by omega) hsg (by omega)) (d2 := d - 1) (by omega) (Nat.le_of_eq (Nat.zero_add _)) (Nat.le_of_eq (Nat.zero_add _)) (fun r2 h2 hq2 => ?_)
              obtain ⟨rfl, Iq39, rfl, hzq39, hmq39⟩ := hq2
              refine q_if_eq (tgt := 114) (A := (1 : Int)) (pc2 := 88) d_M_isAnswer_85 rfl rfl (nI_toInt (by omega)) (fun c40 => ?_) (fun c40 => ?_)
              · exfalso; omega
              refine r_aload_n (x := some 761) (pc2 := 89) d_M_isAnswer_88 rfl rfl ?_
              refine r_iconst (v := nI 3) (pc2 := 90) d_M_isAnswer_89 rfl (by decide) ?_
              refine r_iconst (v := nI 0) (pc2 := 91) d_M_isAnswer_90 rfl (by decide) ?_
              refine r_iload_n (pc2 := 92) d_M_isAnswer_91 rfl rfl ?_
              refine r_aload_n (x := some 761) (pc2 := 93) d_M_isAnswer_92 rfl rfl ?_
              refine r_iload_n (pc2 := 94) d_M_isAnswer_93 rfl rfl ?_
              refine r_iconst (v := nI 0) (pc2 := 95) d_M_isAnswer_94 rfl (by decide) ?_
              refine q_callv (M2 := mi_M_of) (pc2 := 98) d_M_isAnswer_95 rfl k_M_76 cm_M_of cv_M_of (sh_761 hS) (by decide) rfl rfl rfl (Nat.le_of_ble_eq_true rfl) (c_M_of (I := Iq39) (F := F) (W := 0) hS hR (by omega)) (d2 := d - 1) (by omega) (Nat.le_of_eq (Nat.zero_add _)) (Nat.le_of_eq (Nat.zero_add _)) ?_
              refine q_top (y := nI 3) ((MS.row hmq39 (a := 762) (by decide) _).trans hG) ?_
              refine q_icmp_gt (tgt := 107) (A := (3 : Int)) (B := (3 : Int)) (pc2 := 101) d_M_isAnswer_98 rfl rfl (nI_toInt (by omega)) (nI_toInt (by omega)) (fun c41 => ?_) (fun c41 => ?_)
              · exfalso; omega
              refine r_sipush (v := nI 333) (pc2 := 104) d_M_isAnswer_101 rfl (by decide) ?_
              refine r_goto (tgt := 108) d_M_isAnswer_104 rfl ?_
              refine r_callv (M2 := mi_M_isNumber) (pc2 := 111) d_M_isAnswer_108 rfl k_M_149 cm_M_isNumber cv_M_isNumber (sh_761 hS) (by decide) rfl rfl rfl (Nat.le_of_ble_eq_true rfl) (c_M_isNumber hmq39 hn (by omega) hk0 (m := 3) (lo := 0) (hi := 333) (by omega) (by omega) (by omega) (by omega)) (d2 := d - 1) (by omega) (Nat.le_of_eq (Nat.zero_add _)) (Nat.le_of_eq (Nat.zero_add _)) (fun r2 h2 hq2 => ?_)
              obtain ⟨Iq42, rfl, hzq42, hxq42⟩ := hq2
              cases hoq42 : nmb T n 3 (eq31 + 1) 0 333 with
              | none =>
                rw [hoq42] at hxq42
                obtain ⟨rfl, hmq42⟩ := hxq42
                refine q_if_ne (tgt := 116) (A := (0 : Int)) (pc2 := 114) d_M_isAnswer_111 rfl rfl (nI_toInt (by omega)) (fun c43 => ?_) (fun c43 => ?_)
                · exfalso; omega
                refine r_iconst (v := nI 0) (pc2 := 115) d_M_isAnswer_114 rfl (by decide) ?_
                refine Run.ret (some (.int (nI 0))) d_M_isAnswer_115 ⟨_, rfl, by decide⟩ ?_
                have e_ : anS T n 3 p = (none, eq31 + 1) := by unfold anS; rw [if_neg (by omega), if_pos (by omega)]; unfold pxA; rw [show prt3 T n (hiT 3 0) (hiT 3 1) (hiT 3 2) (p + 1) = (none, eq31 + 1) from by (show prt3 T n 333 333 333 (p + 1) = _); unfold prt3; rw [hoq20]; dsimp only; rw [if_neg (show ¬ (byt T n eq20 ≠ 44) by omega), hoq31]; dsimp only; rw [if_neg (show ¬ (byt T n eq31 ≠ 44) by omega), hoq42]]
                exact ⟨_, rfl, by rw [e_]; exact ⟨rfl, hmq42⟩⟩
              | some rq42 =>
                obtain ⟨eq42, vq42⟩ := rq42
                rw [hoq42] at hxq42
                obtain ⟨rfl, hmq42, hvq42⟩ := hxq42
                have hnbq42 := nmb_p (by omega) hoq42
                refine q_if_ne (tgt := 116) (A := (1 : Int)) (pc2 := 114) d_M_isAnswer_111 rfl rfl (nI_toInt (by omega)) (fun c44 => ?_) (fun c44 => ?_)
                rotate_left
                · exfalso; omega
                refine r_aload_n (x := some 761) (pc2 := 117) d_M_isAnswer_116 rfl rfl ?_
                refine q_getR (x := some 771) (pc2 := 120) d_M_isAnswer_117 rfl k_M_37 rfl (sh_761 hS) (rf_761_14 hR) ?_
                refine r_iload_n (pc2 := 121) d_M_isAnswer_120 rfl rfl ?_
                refine r_iconst (v := nI 1) (pc2 := 122) d_M_isAnswer_121 rfl (by decide) ?_
                refine q_isubN (pc2 := 123) d_M_isAnswer_122 rfl (by omega) ?_
                refine r_aload_n (x := some 761) (pc2 := 124) d_M_isAnswer_123 rfl rfl ?_
                refine q_getI (x := nI vq42) (pc2 := 127) d_M_isAnswer_124 rfl k_M_122 (by decide) (sh_761 hS) hvq42 ?_
                refine q_iastore (q := 2) (pc2 := 128) d_M_isAnswer_127 rfl (sh_771 hS) (nI_toInt (by omega)) (by omega) (fun I45 hI45 => ?_)
                have hm46 := MS.sr hmq42 hI45
                refine q_iinc (b := 1) (pc2 := 131) d_M_isAnswer_128 rfl rfl (by decide) (Nat.le_of_ble_eq_true rfl) ?_
                refine r_goto (tgt := 69) d_M_isAnswer_131 rfl ?_
                refine r_iload_n (pc2 := 70) d_M_isAnswer_69 rfl rfl ?_
                refine r_iconst (v := nI 3) (pc2 := 71) d_M_isAnswer_70 rfl (by decide) ?_
                refine q_icmp_gt (tgt := 134) (A := (4 : Int)) (B := (3 : Int)) (pc2 := 74) d_M_isAnswer_71 rfl rfl (nI_toInt (by omega)) (nI_toInt (by omega)) (fun c47 => ?_) (fun c47 => ?_)
                rotate_left
                · exfalso; omega
                refine r_iconst (v := nI 1) (pc2 := 135) d_M_isAnswer_134 rfl (by decide) ?_
                refine Run.ret (some (.int (nI 1))) d_M_isAnswer_135 ⟨_, rfl, by decide⟩ ?_
                have e_ : anS T n 3 p = (some (Sum.inr (vq20, vq31, vq42)), eq42) := by unfold anS; rw [if_neg (by omega), if_pos (by omega)]; unfold pxA; rw [show prt3 T n (hiT 3 0) (hiT 3 1) (hiT 3 2) (p + 1) = (some (vq20, vq31, vq42), eq42) from by (show prt3 T n 333 333 333 (p + 1) = _); unfold prt3; rw [hoq20]; dsimp only; rw [if_neg (show ¬ (byt T n eq20 ≠ 44) by omega), hoq31]; dsimp only; rw [if_neg (show ¬ (byt T n eq31 ≠ 44) by omega), hoq42]]
                exact ⟨_, rfl, by rw [e_]; exact ⟨rfl, hm46, fun k hk => match k, hk with | 0, _ => (rd_nk hI45 (by decide)).trans ((hzq42 771 0 (by decide)).trans ((hzq39 771 0 (by decide)).trans ((rd_nk hI34 (by decide)).trans ((hzq31 771 0 (by decide)).trans ((hzq28 771 0 (by decide)).trans (rd_eq hI23)))))) | 1, _ => (rd_nk hI45 (by decide)).trans ((hzq42 771 1 (by decide)).trans ((hzq39 771 1 (by decide)).trans (rd_eq hI34))) | 2, _ => rd_eq hI45 | k + 3, h => absurd h (by omega)⟩⟩
            · skip
              have hsg := hsg38
              refine q_callv (M2 := mi_M_isSign) (pc2 := 85) d_M_isAnswer_82 rfl k_M_139 cm_M_isSign cv_M_isSign (sh_761 hS) (by decide) rfl rfl rfl (Nat.le_of_ble_eq_true rfl) (c_M_isSign_n hm35 hn (by omega) hk0 (c := 44) (by omega) hsg (by omega)) (d2 := d - 1) (by omega) (Nat.le_of_eq (Nat.zero_add _)) (Nat.le_of_eq (Nat.zero_add _)) ?_
              refine q_if_eq (tgt := 114) (A := (0 : Int)) (pc2 := 88) d_M_isAnswer_85 rfl rfl (nI_toInt (by omega)) (fun c48 => ?_) (fun c48 => ?_)
              rotate_left
              · exfalso; omega
              refine r_iconst (v := nI 0) (pc2 := 115) d_M_isAnswer_114 rfl (by decide) ?_
              refine Run.ret (some (.int (nI 0))) d_M_isAnswer_115 ⟨_, rfl, by decide⟩ ?_
              have e_ : anS T n 3 p = (none, eq31) := by unfold anS; rw [if_neg (by omega), if_pos (by omega)]; unfold pxA; rw [show prt3 T n (hiT 3 0) (hiT 3 1) (hiT 3 2) (p + 1) = (none, eq31) from by (show prt3 T n 333 333 333 (p + 1) = _); unfold prt3; rw [hoq20]; dsimp only; rw [if_neg (show ¬ (byt T n eq20 ≠ 44) by omega), hoq31]; dsimp only; rw [if_pos (by omega)]]
              exact ⟨_, rfl, by rw [e_]; exact ⟨rfl, hm35⟩⟩
        · skip
          have hsg := hsg27
          refine q_callv (M2 := mi_M_isSign) (pc2 := 85) d_M_isAnswer_82 rfl k_M_139 cm_M_isSign cv_M_isSign (sh_761 hS) (by decide) rfl rfl rfl (Nat.le_of_ble_eq_true rfl) (c_M_isSign_n hm24 hn (by omega) hk0 (c := 44) (by omega) hsg (by omega)) (d2 := d - 1) (by omega) (Nat.le_of_eq (Nat.zero_add _)) (Nat.le_of_eq (Nat.zero_add _)) ?_
          refine q_if_eq (tgt := 114) (A := (0 : Int)) (pc2 := 88) d_M_isAnswer_85 rfl rfl (nI_toInt (by omega)) (fun c49 => ?_) (fun c49 => ?_)
          rotate_left
          · exfalso; omega
          refine r_iconst (v := nI 0) (pc2 := 115) d_M_isAnswer_114 rfl (by decide) ?_
          refine Run.ret (some (.int (nI 0))) d_M_isAnswer_115 ⟨_, rfl, by decide⟩ ?_
          have e_ : anS T n 3 p = (none, eq20) := by unfold anS; rw [if_neg (by omega), if_pos (by omega)]; unfold pxA; rw [show prt3 T n (hiT 3 0) (hiT 3 1) (hiT 3 2) (p + 1) = (none, eq20) from by (show prt3 T n 333 333 333 (p + 1) = _); unfold prt3; rw [hoq20]; dsimp only; rw [if_pos (by omega)]]
          exact ⟨_, rfl, by rw [e_]; exact ⟨rfl, hm24⟩⟩
    · skip
      have hsg := hsg14
      refine q_callv (M2 := mi_M_isSign) (pc2 := 62) d_M_isAnswer_59 rfl k_M_139 cm_M_isSign cv_M_isSign (sh_761 hS) (by decide) rfl rfl rfl (Nat.le_of_ble_eq_true rfl) (c_M_isSign_n hm hn (by omega) hk0 (c := 37) (by omega) hsg (by omega)) (d2 := d - 1) (by omega) (Nat.le_of_eq (Nat.zero_add _)) (Nat.le_of_eq (Nat.zero_add _)) ?_
      refine q_if_ne (tgt := 67) (A := (0 : Int)) (pc2 := 65) d_M_isAnswer_62 rfl rfl (nI_toInt (by omega)) (fun c50 => ?_) (fun c50 => ?_)
      · exfalso; omega
      refine r_iconst (v := nI 0) (pc2 := 66) d_M_isAnswer_65 rfl (by decide) ?_
      refine Run.ret (some (.int (nI 0))) d_M_isAnswer_66 ⟨_, rfl, by decide⟩ ?_
      have e_ : anS T n 3 p = (none, p) := by unfold anS; rw [if_neg (by omega), if_neg (by omega)]
      exact ⟨_, rfl, by rw [e_]; exact ⟨rfl, hm⟩⟩
theorem c_M_isAnswer {d : Nat} {B : HS} {A0 A : A4} {k0 n p nk : Nat} {T : Nat → Int32} {ns : List Nd} {I : Nat → Nat → Int32} {R : Nat → Nat → Option Nat} {L : Nat → Nat → Int64} {sh : Nat → Nat × Nat} {N : Nat} (hm : MS B A0 k0 n T p nk ns A (I, R, L, sh, N)) (hn : n ≤ 250) (hp : p ≤ n) (hk0 : k0 ≤ 1000) {F top : Nat} (hF : F < 12) (ht : 1 ≤ top ∧ top ≤ 3) (hG : B.1 762 (174 + 84 * F + 0) = nI top) (hd : 4 ≤ d) : Mt mi_M_isAnswer d 0 0 [.ref 761, .int (nI F)] (I, R, L, sh, N) (fun x h2 => ∃ K, h2 = (K, R, L, sh, N) ∧ AnM B A0 k0 n T nk ns A (anS T n top p) x (K, R, L, sh, N)) := by
  rcases (show top = 1 ∨ top = 2 ∨ top = 3 by omega) with h | h | h <;> subst h
  · exact c_M_isAnswer_1 hm hn hp hk0 hF hG hd
  · exact c_M_isAnswer_2 hm hn hp hk0 hF hG hd
  · exact c_M_isAnswer_3 hm hn hp hk0 hF hG hd
