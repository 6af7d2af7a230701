/-! THE REFERENCE: the state of its parser -/
/-! the reference's parser: its state, over the heap B that it began with -/
abbrev A4 : Type := Nat × Nat × Nat × Nat
/-- what lies below B's end and is none of the parser's stands as it was -/
def FrP (B : HS) (A0 : A4) (h : HS) : Prop := (∀ a j, a < B.2.2.2.2 → a ≠ 761 → a ≠ A0.1 → a ≠ A0.2.1 → a ≠ A0.2.2.1 → a ≠ A0.2.2.2 → a ≠ 771 → h.1 a j = B.1 a j) ∧ (∀ j, j ≠ 9 → j ≠ 12 → j ≠ 13 → h.1 761 j = B.1 761 j) ∧ (∀ a j, a < B.2.2.2.2 → ¬ (a = 761 ∧ 5 ≤ j ∧ j ≤ 8) → h.2.1 a j = B.2.1 a j) ∧ (∀ a j, a < B.2.2.2.2 → h.2.2.1 a j = B.2.2.1 a j) ∧ (∀ a, a < B.2.2.2.2 → h.2.2.2.1 a = B.2.2.2.1 a) ∧ B.2.2.2.2 ≤ h.2.2.2.2 ∧ (ShN h.2.2.2.1 h.2.2.2.2 ∧ ∀ a, B.2.2.2.2 ≤ a → (h.2.2.2.1 a).1 ≠ 1)
/-- which cells the trees lie in -/
def TAO (B : HS) (A0 A : A4) : Prop := (A = A0 ∨ (B.2.2.2.2 ≤ A.1 ∧ B.2.2.2.2 ≤ A.2.1 ∧ B.2.2.2.2 ≤ A.2.2.1 ∧ B.2.2.2.2 ≤ A.2.2.2)) ∧ (A.1 ≠ A.2.1 ∧ A.1 ≠ A.2.2.1 ∧ A.1 ≠ A.2.2.2 ∧ A.2.1 ≠ A.2.2.1 ∧ A.2.1 ≠ A.2.2.2 ∧ A.2.2.1 ≠ A.2.2.2) ∧ TNe A.1 A.2.1 A.2.2.1 A.2.2.2 ∧ TNe A0.1 A0.2.1 A0.2.2.1 A0.2.2.2
/-- nodes, and of what tells nothing the numbers are 0 -/
def NIM (K F C S : Nat → Int32) (k0 : Nat) (ns : List Nd) : Prop := NIN K F C S k0 ns ∧ ∀ j, j < ns.length → (nd ns j).1 = 4 → F (k0 + j) = nI 0
def MS (B : HS) (A0 : A4) (k0 n : Nat) (T : Nat → Int32) (p nk : Nat) (ns : List Nd) (A : A4) (h : HS) : Prop :=
  (h.1 761 11 = nI n ∧ h.1 761 12 = nI p ∧ h.1 761 9 = nI (k0 + ns.length)) ∧ (∀ j, j < n → h.1 770 j = T j) ∧ TRf h.2.1 h.2.2.2.1 A.1 A.2.1 A.2.2.1 A.2.2.2 nk ∧ (k0 + ns.length ≤ nk ∧ nk ≤ 3000) ∧
  NIM (h.1 A.1) (h.1 A.2.1) (h.1 A.2.2.1) (h.1 A.2.2.2) k0 ns ∧ (∀ j, j < k0 → h.1 A.1 j = B.1 A0.1 j ∧ h.1 A.2.1 j = B.1 A0.2.1 j ∧ h.1 A.2.2.1 j = B.1 A0.2.2.1 j ∧ h.1 A.2.2.2 j = B.1 A0.2.2.2 j) ∧
  TAO B A0 A ∧ FrP B A0 h ∧ ShOK h.2.2.2.1 ∧ RfOK h.2.1 ∧ 781 ≤ B.2.2.2.2
section
variable {B : HS} {A0 A : A4} {k0 n p nk : Nat} {T : Nat → Int32} {ns : List Nd} {I K : Nat → Nat → Int32} {R : Nat → Nat → Option Nat} {L : Nat → Nat → Int64} {sh : Nat → Nat × Nat} {N : Nat}
theorem TNe.ne (h : TNe A.1 A.2.1 A.2.2.1 A.2.2.2) {a : Nat} (h1 : a < 766 ∨ (769 < a ∧ a < 781)) : A.1 ≠ a ∧ A.2.1 ≠ a ∧ A.2.2.1 ≠ a ∧ A.2.2.2 ≠ a := by
  obtain ⟨h2, h3, h4, h5⟩ := h
  exact ⟨by omega, by omega, by omega, by omega⟩
/-- a store in the parser's own fields -/
theorem MS.fd {j : Nat} {v : Int32} {q : Nat} (h : MS B A0 k0 n T p nk ns A (I, R, L, sh, N)) (hj : (j = 12 ∧ v = nI q) ∨ (j = 13 ∧ q = p)) (e : K = u2 I 761 j v) : MS B A0 k0 n T q nk ns A (K, R, L, sh, N) := by
  obtain ⟨⟨a1, a2, a3⟩, b, c, d, f, g, t, ⟨y1, y2, y3, y4, y5, y6, y7⟩, s, r, z⟩ := h
  obtain ⟨n1, n2, n3, n4⟩ := TNe.ne t.2.2.1 (a := 761) (by omega)
  have er : ∀ a, a ≠ 761 → K a = I a := fun a ha => funext fun j => rd_ne e ha
  dsimp only at a1 a2 a3 b c d f g y1 y2 y3 y4 y5 y6 y7 s r z
  refine ⟨⟨(rd_nk e (by omega)).trans a1, ?_, (rd_nk e (by omega)).trans a3⟩, fun i hi => (rd_ne e (by decide)).trans (b i hi), c, d, ?_, ?_, t, ⟨fun a i h1 h2 h3 h4 h5 h6 h7 => (rd_ne e h2).trans (y1 a i h1 h2 h3 h4 h5 h6 h7), fun i h1 h2 h3 => (rd_nk e (by omega)).trans (y2 i h1 h2 h3), y3, y4, y5, y6, y7⟩, s, r, z⟩
  · rcases hj with ⟨rfl, rfl⟩ | ⟨rfl, rfl⟩
    · exact rd_eq e
    · exact (rd_nk e (by decide)).trans a2
  · show NIM (K A.1) (K A.2.1) (K A.2.2.1) (K A.2.2.2) k0 ns
    rw [er _ n1, er _ n2, er _ n3, er _ n4]; exact f
  · intro i hi
    show K A.1 i = _ ∧ K A.2.1 i = _ ∧ K A.2.2.1 i = _ ∧ K A.2.2.2 i = _
    rw [er _ n1, er _ n2, er _ n3, er _ n4]; exact g i hi
end
theorem c_M_byteAt {d : Nat} {B : HS} {A0 A : A4} {k0 n p nk : Nat} {T : Nat → Int32} {ns : List Nd} {I : Nat → Nat → Int32} {R : Nat → Nat → Option Nat} {L : Nat → Nat → Int64} {sh : Nat → Nat × Nat} {N : Nat} (hm : MS B A0 k0 n T p nk ns A (I, R, L, sh, N)) (hn : n ≤ 250) (hk0 : k0 ≤ 1000) {q : Nat} (hq : q ≤ 1000) : Me mi_M_byteAt d 0 0 [.ref 761, .int (nI q)] (I, R, L, sh, N) (some (.int (ltr T n q))) (I, R, L, sh, N) := by
  obtain ⟨⟨m11, m12, m9⟩, hmT, hmR, ⟨hmk, hmk2⟩, hmN, hmB, hmA, hmF, hS, hR, hmZ⟩ := id hm
  dsimp only at m11 m12 m9 hmT hmR hmN hmB hS hR
  refine Mt.of pn_M (Nat.le_of_ble_eq_true rfl) ?_
  show Run mi_M_byteAt d 0 0 0 [(0, .ref 761), (1, .int (nI q))] [] (I, R, L, sh, N) _
  refine r_iload_n (pc2 := 1) d_M_byteAt_0 rfl rfl ?_
  refine r_aload_n (x := some 761) (pc2 := 2) d_M_byteAt_1 rfl rfl ?_
  refine q_getI (x := nI n) (pc2 := 5) d_M_byteAt_2 rfl k_M_109 (by decide) (sh_761 hS) m11 ?_
  refine q_icmp_ge (tgt := 17) (A := ((q : Nat) : Int)) (B := ((n : Nat) : Int)) (pc2 := 8) d_M_byteAt_5 rfl rfl (nI_toInt (by omega)) (nI_toInt (by omega)) (fun c1 => ?_) (fun c1 => ?_)
  · refine r_iconst (v := (-1 : Int32)) (pc2 := 18) d_M_byteAt_17 rfl (by decide) ?_
    refine Run.ret (some (.int ((-1 : Int32)))) d_M_byteAt_18 ⟨_, rfl⟩ ?_
    exact ⟨by unfold ltr; rw [if_neg (by omega)], rfl⟩
  · refine r_aload_n (x := some 761) (pc2 := 9) d_M_byteAt_8 rfl rfl ?_
    refine q_getR (x := some 770) (pc2 := 12) d_M_byteAt_9 rfl k_M_34 rfl (sh_761 hS) (rf_761_10 hR) ?_
    refine r_iload_n (pc2 := 13) d_M_byteAt_12 rfl rfl ?_
    refine q_iaload (q := q) (x := T q) (pc2 := 14) d_M_byteAt_13 rfl (sh_770 hS) (nI_toInt (by omega)) (by omega) (hmT q (by omega)) ?_
    refine r_goto (tgt := 18) d_M_byteAt_14 rfl ?_
    refine Run.ret (some (.int (T q))) d_M_byteAt_18 ⟨_, rfl⟩ ?_
    exact ⟨by unfold ltr; rw [if_pos (by omega)], rfl⟩
theorem c_M_isSign_y {d : Nat} {B : HS} {A0 A : A4} {k0 n p nk : Nat} {T : Nat → Int32} {ns : List Nd} {I : Nat → Nat → Int32} {R : Nat → Nat → Option Nat} {L : Nat → Nat → Int64} {sh : Nat → Nat × Nat} {N : Nat} (hm : MS B A0 k0 n T p nk ns A (I, R, L, sh, N)) (hn : n ≤ 250) (hp : p ≤ n) (hk0 : k0 ≤ 1000) {c : Nat} (hc : c ≤ 200) (hb : byt T n p = (c : Int)) (hd : 1 ≤ d) : Mt mi_M_isSign d 0 0 [.ref 761, .int (nI c)] (I, R, L, sh, N) (fun x h2 => x = some (.int (nI 1)) ∧ ∃ K, h2 = (K, R, L, sh, N) ∧ (∀ a j, a ≠ 761 → K a j = I a j) ∧ MS B A0 k0 n T (p + 1) nk ns A (K, R, L, sh, N)) := by
  obtain ⟨-, -, -, -, -, -, -, -, hS, hR, -⟩ := id hm
  dsimp only at hS hR
  refine Mt.of pn_M (Nat.le_of_ble_eq_true rfl) ?_
  show Run mi_M_isSign d 0 0 0 [(0, .ref 761), (1, .int (nI c))] [] (I, R, L, sh, N) _
  refine r_aload_n (x := some 761) (pc2 := 1) d_M_isSign_0 rfl rfl ?_
  refine r_aload_n (x := some 761) (pc2 := 2) d_M_isSign_1 rfl rfl ?_
  refine q_getI (x := nI p) (pc2 := 5) d_M_isSign_2 rfl k_M_112 (by decide) (sh_761 hS) hm.1.2.1 ?_
  refine q_callv (M2 := mi_M_byteAt) (pc2 := 8) d_M_isSign_5 rfl k_M_115 cm_M_byteAt cv_M_byteAt (sh_761 hS) (by decide) rfl rfl rfl (Nat.le_of_ble_eq_true rfl) (c_M_byteAt hm hn hk0 (q := p) (by omega)) (d2 := d - 1) (by omega) (Nat.le_of_eq (Nat.zero_add _)) (Nat.le_of_eq (Nat.zero_add _)) ?_
  refine r_iload_n (pc2 := 9) d_M_isSign_8 rfl rfl ?_
  refine q_icmp_eq (tgt := 14) (A := byt T n p) (B := ((c : Nat) : Int)) (pc2 := 12) d_M_isSign_9 rfl rfl (ltr_i) (nI_toInt (by omega)) (fun c1 => ?_) (fun c1 => ?_)
  · have hl1 : p < n := byt_lt (T := T) (by omega)
    refine r_aload_n (x := some 761) (pc2 := 15) d_M_isSign_14 rfl rfl ?_
    refine r_dup (pc2 := 16) d_M_isSign_15 rfl rfl ?_
    refine q_getI (x := nI p) (pc2 := 19) d_M_isSign_16 rfl k_M_112 (by decide) (sh_761 hS) hm.1.2.1 ?_
    refine r_iconst (v := nI 1) (pc2 := 20) d_M_isSign_19 rfl (by decide) ?_
    refine q_iaddN (pc2 := 21) d_M_isSign_20 rfl ?_
    refine q_putI (pc2 := 24) d_M_isSign_21 rfl k_M_112 (Or.inl rfl) (sh_761 hS) (Or.inl rfl) (fun I2 hI2 => ?_)
    have hm3 := MS.fd (q := p + 1) hm (Or.inl ⟨rfl, rfl⟩) hI2
    refine r_iconst (v := nI 1) (pc2 := 25) d_M_isSign_24 rfl (by decide) ?_
    refine Run.ret (some (.int (nI 1))) d_M_isSign_25 ⟨_, rfl, by decide⟩ ?_
    exact ⟨rfl, _, rfl, fun a j q => rd_ne hI2 q, hm3⟩
  · exfalso; omega
theorem c_M_isSign_n {d : Nat} {B : HS} {A0 A : A4} {k0 n p nk : Nat} {T : Nat → Int32} {ns : List Nd} {I : Nat → Nat → Int32} {R : Nat → Nat → Option Nat} {L : Nat → Nat → Int64} {sh : Nat → Nat × Nat} {N : Nat} (hm : MS B A0 k0 n T p nk ns A (I, R, L, sh, N)) (hn : n ≤ 250) (hp : p ≤ n) (hk0 : k0 ≤ 1000) {c : Nat} (hc : c ≤ 200) (hb : byt T n p ≠ (c : Int)) (hd : 1 ≤ d) : Me mi_M_isSign d 0 0 [.ref 761, .int (nI c)] (I, R, L, sh, N) (some (.int (nI 0))) (I, R, L, sh, N) := by
  obtain ⟨-, -, -, -, -, -, -, -, hS, hR, -⟩ := id hm
  dsimp only at hS hR
  refine Mt.of pn_M (Nat.le_of_ble_eq_true rfl) ?_
  show Run mi_M_isSign d 0 0 0 [(0, .ref 761), (1, .int (nI c))] [] (I, R, L, sh, N) _
  refine r_aload_n (x := some 761) (pc2 := 1) d_M_isSign_0 rfl rfl ?_
  refine r_aload_n (x := some 761) (pc2 := 2) d_M_isSign_1 rfl rfl ?_
  refine q_getI (x := nI p) (pc2 := 5) d_M_isSign_2 rfl k_M_112 (by decide) (sh_761 hS) hm.1.2.1 ?_
  refine q_callv (M2 := mi_M_byteAt) (pc2 := 8) d_M_isSign_5 rfl k_M_115 cm_M_byteAt cv_M_byteAt (sh_761 hS) (by decide) rfl rfl rfl (Nat.le_of_ble_eq_true rfl) (c_M_byteAt hm hn hk0 (q := p) (by omega)) (d2 := d - 1) (by omega) (Nat.le_of_eq (Nat.zero_add _)) (Nat.le_of_eq (Nat.zero_add _)) ?_
  refine r_iload_n (pc2 := 9) d_M_isSign_8 rfl rfl ?_
  refine q_icmp_eq (tgt := 14) (A := byt T n p) (B := ((c : Nat) : Int)) (pc2 := 12) d_M_isSign_9 rfl rfl (ltr_i) (nI_toInt (by omega)) (fun c1 => ?_) (fun c1 => ?_)
  · exfalso; omega
  · refine r_iconst (v := nI 0) (pc2 := 13) d_M_isSign_12 rfl (by decide) ?_
    refine Run.ret (some (.int (nI 0))) d_M_isSign_13 ⟨_, rfl, by decide⟩ ?_
    exact ⟨rfl, rfl⟩
theorem l_M_isNumber {d : Nat} {B : HS} {A0 A : A4} {k0 n p nk m lo hi : Nat} {T : Nat → Int32} {ns : List Nd} {I : Nat → Nat → Int32} {R : Nat → Nat → Option Nat} {L : Nat → Nat → Int64} {sh : Nat → Nat × Nat} {N : Nat} (hm : MS B A0 k0 n T p nk ns A (I, R, L, sh, N)) (hn : n ≤ 250) (hp : p ≤ n) (hk0 : k0 ≤ 1000) (hM : m ≤ 6) (hlo : lo ≤ 999999) (hhi : hi ≤ 999999) {Q : Option Value → HS → Prop} (hq : ∀ x K, ((∀ a j, a ≠ 761 → K a j = I a j) ∧ match nmb T n m p lo hi with | none => x = some (.int (nI 0)) ∧ MS B A0 k0 n T p nk ns A (K, R, L, sh, N) | some (e, v) => x = some (.int (nI 1)) ∧ MS B A0 k0 n T e nk ns A (K, R, L, sh, N) ∧ K 761 13 = nI v) → Q x (K, R, L, sh, N)) (hd : 2 ≤ d) : ∀ (n_ : Nat) (i v : Nat), m - i = n_ → (nmL T n m p 0 = nmL T n (m - i) (p + i) v) → (v < 10 ^ i) → (i ≤ m) → (p + i ≤ n) → Run mi_M_isNumber d 0 0 6 [(0, .ref 761), (1, .int (nI m)), (2, .int (nI lo)), (3, .int (nI hi)), (4, .int (nI v)), (5, .int (nI i))] [] (I, R, L, sh, N) Q := by
  intro n_
  induction n_ using Nat.strongRecOn with | ind n_ ih_ => ?_
  intro i v hn_ v0_ v1_ v2_ v3_
  obtain ⟨-, -, -, -, -, -, -, -, hS, hR, -⟩ := id hm
  dsimp only at hS hR
  have hv6 : v < 1000000 := Nat.lt_of_lt_of_le v1_ (Nat.pow_le_pow_right (by decide) (show i ≤ 6 by omega))
  have hlq : 48 ≤ byt T n (p + i) → p + i < n := fun z => byt_lt (T := T) (n := n) (p := p + i) (by omega)
  refine r_iload (pc2 := 8) d_M_isNumber_6 rfl rfl ?_
  refine r_iload_n (pc2 := 9) d_M_isNumber_8 rfl rfl ?_
  refine q_icmp_ge (tgt := 64) (A := ((i : Nat) : Int)) (B := ((m : Nat) : Int)) (pc2 := 12) d_M_isNumber_9 rfl rfl (nI_toInt (by omega)) (nI_toInt (by omega)) (fun c1 => ?_) (fun c1 => ?_)
  · refine r_iload (pc2 := 66) d_M_isNumber_64 rfl rfl ?_
    refine q_if_eq (tgt := 82) (A := ((i : Nat) : Int)) (pc2 := 69) d_M_isNumber_66 rfl rfl (nI_toInt (by omega)) (fun c2 => ?_) (fun c2 => ?_)
    · refine r_iconst (v := nI 0) (pc2 := 83) d_M_isNumber_82 rfl (by decide) ?_
      refine Run.ret (some (.int (nI 0))) d_M_isNumber_83 ⟨_, rfl, by decide⟩ ?_
      have v2_ := v0_
      have e_ : nmL T n m p 0 = (p + i, v) := v2_.trans (nmL_0 (by first | exact Or.inl (by omega) | exact Or.inr (by omega)))
      exact hq _ _ ⟨fun a j q => rfl, by rw [nmb_n e_ (by omega)]; exact ⟨rfl, hm⟩⟩
    · refine r_iload (pc2 := 71) d_M_isNumber_69 rfl rfl ?_
      refine r_i2l (pc2 := 72) d_M_isNumber_71 rfl ?_
      refine r_iload_n (pc2 := 73) d_M_isNumber_72 rfl rfl ?_
      refine r_i2l (pc2 := 74) d_M_isNumber_73 rfl ?_
      refine r_iload_n (pc2 := 75) d_M_isNumber_74 rfl rfl ?_
      refine r_i2l (pc2 := 76) d_M_isNumber_75 rfl ?_
      refine q_calls (M2 := mi_M_in) (pc2 := 79) d_M_isNumber_76 rfl k_M_68 cm_M_in cs_M_in rfl rfl (Nat.le_of_ble_eq_true rfl) (c_M_in (A := ((v : Nat) : Int)) (B := ((lo : Nat) : Int)) (C := ((hi : Nat) : Int)) (toInt64_toInt (nI_toInt (by omega))) (toInt64_toInt (nI_toInt (by omega))) (toInt64_toInt (nI_toInt (by omega)))) (d2 := d - 1) (by omega) (Nat.le_of_eq (Nat.zero_add _)) (Nat.le_of_eq (Nat.zero_add _)) ?_
      refine q_bif_ne (tgt := 84) (pc2 := 82) d_M_isNumber_79 rfl rfl (fun c3 => ?_) (fun c3 => ?_)
      · refine r_aload_n (x := some 761) (pc2 := 85) d_M_isNumber_84 rfl rfl ?_
        refine r_iload (pc2 := 87) d_M_isNumber_85 rfl rfl ?_
        refine q_putI (pc2 := 90) d_M_isNumber_87 rfl k_M_122 (Or.inl rfl) (sh_761 hS) (Or.inl rfl) (fun I4 hI4 => ?_)
        have hm5 := MS.fd (q := p) hm (Or.inr ⟨rfl, rfl⟩) hI4
        refine r_aload_n (x := some 761) (pc2 := 91) d_M_isNumber_90 rfl rfl ?_
        refine r_dup (pc2 := 92) d_M_isNumber_91 rfl rfl ?_
        refine q_getI (x := nI p) (pc2 := 95) d_M_isNumber_92 rfl k_M_112 (by decide) (sh_761 hS) hm5.1.2.1 ?_
        refine r_iload (pc2 := 97) d_M_isNumber_95 rfl rfl ?_
        refine q_iaddN (pc2 := 98) d_M_isNumber_97 rfl ?_
        refine q_putI (pc2 := 101) d_M_isNumber_98 rfl k_M_112 (Or.inl rfl) (sh_761 hS) (Or.inl rfl) (fun I6 hI6 => ?_)
        have hm7 := MS.fd (q := p + i) hm5 (Or.inl ⟨rfl, rfl⟩) hI6
        refine r_iconst (v := nI 1) (pc2 := 102) d_M_isNumber_101 rfl (by decide) ?_
        refine Run.ret (some (.int (nI 1))) d_M_isNumber_102 ⟨_, rfl, by decide⟩ ?_
        have v2_ := v0_
        have e_ : nmL T n m p 0 = (p + i, v) := v2_.trans (nmL_0 (by first | exact Or.inl (by omega) | exact Or.inr (by omega)))
        exact hq _ _ ⟨fun a j q => (rd_ne hI6 q).trans (rd_ne hI4 q), by rw [nmb_s e_ (by omega)]; exact ⟨rfl, hm7, (rd_nk hI6 (by decide)).trans (rd_eq hI4)⟩⟩
      · refine r_iconst (v := nI 0) (pc2 := 83) d_M_isNumber_82 rfl (by decide) ?_
        refine Run.ret (some (.int (nI 0))) d_M_isNumber_83 ⟨_, rfl, by decide⟩ ?_
        have v2_ := v0_
        have e_ : nmL T n m p 0 = (p + i, v) := v2_.trans (nmL_0 (by first | exact Or.inl (by omega) | exact Or.inr (by omega)))
        exact hq _ _ ⟨fun a j q => rfl, by rw [nmb_n e_ (by omega)]; exact ⟨rfl, hm⟩⟩
  · refine r_aload_n (x := some 761) (pc2 := 13) d_M_isNumber_12 rfl rfl ?_
    refine r_aload_n (x := some 761) (pc2 := 14) d_M_isNumber_13 rfl rfl ?_
    refine q_getI (x := nI p) (pc2 := 17) d_M_isNumber_14 rfl k_M_112 (by decide) (sh_761 hS) hm.1.2.1 ?_
    refine r_iload (pc2 := 19) d_M_isNumber_17 rfl rfl ?_
    refine q_iaddN (pc2 := 20) d_M_isNumber_19 rfl ?_
    refine q_callv (M2 := mi_M_byteAt) (pc2 := 23) d_M_isNumber_20 rfl k_M_115 cm_M_byteAt cv_M_byteAt (sh_761 hS) (by decide) rfl rfl rfl (Nat.le_of_ble_eq_true rfl) (c_M_byteAt hm hn hk0 (q := p + i) (by omega)) (d2 := d - 1) (by omega) (Nat.le_of_eq (Nat.zero_add _)) (Nat.le_of_eq (Nat.zero_add _)) ?_
    refine r_i2l (pc2 := 24) d_M_isNumber_23 rfl ?_
    refine r_ldc2 (pc2 := 27) d_M_isNumber_24 rfl k_M_118 ?_
    refine r_ldc2 (pc2 := 30) d_M_isNumber_27 rfl k_M_120 ?_
    refine q_calls (M2 := mi_M_in) (pc2 := 33) d_M_isNumber_30 rfl k_M_68 cm_M_in cs_M_in rfl rfl (Nat.le_of_ble_eq_true rfl) (c_M_in (A := byt T n (p + i)) (B := (48 : Int)) (C := (57 : Int)) (toInt64_toInt (ltr_i)) (by decide) (by decide)) (d2 := d - 1) (by omega) (Nat.le_of_eq (Nat.zero_add _)) (Nat.le_of_eq (Nat.zero_add _)) ?_
    refine q_bif_eq (tgt := 64) (pc2 := 36) d_M_isNumber_33 rfl rfl (fun c8 => ?_) (fun c8 => ?_)
    · refine r_iload (pc2 := 66) d_M_isNumber_64 rfl rfl ?_
      refine q_if_eq (tgt := 82) (A := ((i : Nat) : Int)) (pc2 := 69) d_M_isNumber_66 rfl rfl (nI_toInt (by omega)) (fun c9 => ?_) (fun c9 => ?_)
      · refine r_iconst (v := nI 0) (pc2 := 83) d_M_isNumber_82 rfl (by decide) ?_
        refine Run.ret (some (.int (nI 0))) d_M_isNumber_83 ⟨_, rfl, by decide⟩ ?_
        have v2_ := v0_
        have e_ : nmL T n m p 0 = (p + i, v) := v2_.trans (nmL_0 (by first | exact Or.inl (by omega) | exact Or.inr (by omega)))
        exact hq _ _ ⟨fun a j q => rfl, by rw [nmb_n e_ (by omega)]; exact ⟨rfl, hm⟩⟩
      · refine r_iload (pc2 := 71) d_M_isNumber_69 rfl rfl ?_
        refine r_i2l (pc2 := 72) d_M_isNumber_71 rfl ?_
        refine r_iload_n (pc2 := 73) d_M_isNumber_72 rfl rfl ?_
        refine r_i2l (pc2 := 74) d_M_isNumber_73 rfl ?_
        refine r_iload_n (pc2 := 75) d_M_isNumber_74 rfl rfl ?_
        refine r_i2l (pc2 := 76) d_M_isNumber_75 rfl ?_
        refine q_calls (M2 := mi_M_in) (pc2 := 79) d_M_isNumber_76 rfl k_M_68 cm_M_in cs_M_in rfl rfl (Nat.le_of_ble_eq_true rfl) (c_M_in (A := ((v : Nat) : Int)) (B := ((lo : Nat) : Int)) (C := ((hi : Nat) : Int)) (toInt64_toInt (nI_toInt (by omega))) (toInt64_toInt (nI_toInt (by omega))) (toInt64_toInt (nI_toInt (by omega)))) (d2 := d - 1) (by omega) (Nat.le_of_eq (Nat.zero_add _)) (Nat.le_of_eq (Nat.zero_add _)) ?_
        refine q_bif_ne (tgt := 84) (pc2 := 82) d_M_isNumber_79 rfl rfl (fun c10 => ?_) (fun c10 => ?_)
        · refine r_aload_n (x := some 761) (pc2 := 85) d_M_isNumber_84 rfl rfl ?_
          refine r_iload (pc2 := 87) d_M_isNumber_85 rfl rfl ?_
          refine q_putI (pc2 := 90) d_M_isNumber_87 rfl k_M_122 (Or.inl rfl) (sh_761 hS) (Or.inl rfl) (fun I11 hI11 => ?_)
          have hm12 := MS.fd (q := p) hm (Or.inr ⟨rfl, rfl⟩) hI11
          refine r_aload_n (x := some 761) (pc2 := 91) d_M_isNumber_90 rfl rfl ?_
          refine r_dup (pc2 := 92) d_M_isNumber_91 rfl rfl ?_
          refine q_getI (x := nI p) (pc2 := 95) d_M_isNumber_92 rfl k_M_112 (by decide) (sh_761 hS) hm12.1.2.1 ?_
          refine r_iload (pc2 := 97) d_M_isNumber_95 rfl rfl ?_
          refine q_iaddN (pc2 := 98) d_M_isNumber_97 rfl ?_
          refine q_putI (pc2 := 101) d_M_isNumber_98 rfl k_M_112 (Or.inl rfl) (sh_761 hS) (Or.inl rfl) (fun I13 hI13 => ?_)
          have hm14 := MS.fd (q := p + i) hm12 (Or.inl ⟨rfl, rfl⟩) hI13
          refine r_iconst (v := nI 1) (pc2 := 102) d_M_isNumber_101 rfl (by decide) ?_
          refine Run.ret (some (.int (nI 1))) d_M_isNumber_102 ⟨_, rfl, by decide⟩ ?_
          have v2_ := v0_
          have e_ : nmL T n m p 0 = (p + i, v) := v2_.trans (nmL_0 (by first | exact Or.inl (by omega) | exact Or.inr (by omega)))
          exact hq _ _ ⟨fun a j q => (rd_ne hI13 q).trans (rd_ne hI11 q), by rw [nmb_s e_ (by omega)]; exact ⟨rfl, hm14, (rd_nk hI13 (by decide)).trans (rd_eq hI11)⟩⟩
        · refine r_iconst (v := nI 0) (pc2 := 83) d_M_isNumber_82 rfl (by decide) ?_
          refine Run.ret (some (.int (nI 0))) d_M_isNumber_83 ⟨_, rfl, by decide⟩ ?_
          have v2_ := v0_
          have e_ : nmL T n m p 0 = (p + i, v) := v2_.trans (nmL_0 (by first | exact Or.inl (by omega) | exact Or.inr (by omega)))
          exact hq _ _ ⟨fun a j q => rfl, by rw [nmb_n e_ (by omega)]; exact ⟨rfl, hm⟩⟩
    · refine r_bipush (v := nI 10) (pc2 := 38) d_M_isNumber_36 rfl (by decide) ?_
      refine r_iload (pc2 := 40) d_M_isNumber_38 rfl rfl ?_
      refine q_imulN (pc2 := 41) d_M_isNumber_40 rfl ?_
      refine r_aload_n (x := some 761) (pc2 := 42) d_M_isNumber_41 rfl rfl ?_
      refine r_aload_n (x := some 761) (pc2 := 43) d_M_isNumber_42 rfl rfl ?_
      refine q_getI (x := nI p) (pc2 := 46) d_M_isNumber_43 rfl k_M_112 (by decide) (sh_761 hS) hm.1.2.1 ?_
      refine r_iload (pc2 := 48) d_M_isNumber_46 rfl rfl ?_
      refine q_iaddN (pc2 := 49) d_M_isNumber_48 rfl ?_
      refine q_callv (M2 := mi_M_byteAt) (pc2 := 52) d_M_isNumber_49 rfl k_M_115 cm_M_byteAt cv_M_byteAt (sh_761 hS) (by decide) rfl rfl rfl (Nat.le_of_ble_eq_true rfl) (c_M_byteAt hm hn hk0 (q := p + i) (by omega)) (d2 := d - 1) (by omega) (Nat.le_of_eq (Nat.zero_add _)) (Nat.le_of_eq (Nat.zero_add _)) ?_
      refine q_iaddV (pc2 := 53) d_M_isNumber_52 rfl (A := ((10 * v : Nat) : Int)) (B := byt T n (p + i)) (nI_toInt (by omega)) (ltr_i) (by constructor <;> omega) (fun y15 ey15 hy15 => ?_)
      refine r_bipush (v := nI 48) (pc2 := 55) d_M_isNumber_53 rfl (by decide) ?_
      refine q_isubV (pc2 := 56) d_M_isNumber_55 rfl (A := ((10 * v : Nat) : Int) + byt T n (p + i)) (B := (48 : Int)) (hy15) (nI_toInt (by omega)) (by constructor <;> omega) (fun y16 ey16 hy16 => ?_)
      refine q_top (y := nI (10 * v + (byt T n (p + i)).toNat - 48)) (eq_nI (by rw [hy16]; omega)) ?_
      refine r_istore (pc2 := 58) d_M_isNumber_56 rfl (Nat.le_of_ble_eq_true rfl) ?_
      refine q_iinc (b := 1) (pc2 := 61) d_M_isNumber_58 rfl rfl (by decide) (Nat.le_of_ble_eq_true rfl) ?_
      refine r_goto (tgt := 6) d_M_isNumber_61 rfl ?_
      refine Run.sub (l2 := [(0, .ref 761), (1, .int (nI m)), (2, .int (nI lo)), (3, .int (nI hi)), (4, .int (nI (10 * v + (byt T n (p + i)).toNat - 48))), (5, .int (nI (i + 1)))]) ⟨rfl, rfl, rfl, rfl, rfl, rfl, trivial⟩ ?_
      exact ih_ (m - (i + 1)) (by omega) (i + 1) (10 * v + (byt T n (p + i)).toNat - 48) rfl (v0_.trans (nmL_st (q := p + i) (by omega) (by omega))) (by have h10 := Nat.pow_succ 10 i; omega) (by omega) (by omega)
theorem c_M_isNumber {d : Nat} {B : HS} {A0 A : A4} {k0 n p nk m lo hi : Nat} {T : Nat → Int32} {ns : List Nd} {I : Nat → Nat → Int32} {R : Nat → Nat → Option Nat} {L : Nat → Nat → Int64} {sh : Nat → Nat × Nat} {N : Nat} (hm : MS B A0 k0 n T p nk ns A (I, R, L, sh, N)) (hn : n ≤ 250) (hp : p ≤ n) (hk0 : k0 ≤ 1000) (hM : m ≤ 6) (hlo : lo ≤ 999999) (hhi : hi ≤ 999999) (hd : 2 ≤ d) : Mt mi_M_isNumber d 0 0 [.ref 761, .int (nI m), .int (nI lo), .int (nI hi)] (I, R, L, sh, N) (fun x h2 => ∃ K, h2 = (K, R, L, sh, N) ∧ ((∀ a j, a ≠ 761 → K a j = I a j) ∧ match nmb T n m p lo hi with | none => x = some (.int (nI 0)) ∧ MS B A0 k0 n T p nk ns A (K, R, L, sh, N) | some (e, v) => x = some (.int (nI 1)) ∧ MS B A0 k0 n T e nk ns A (K, R, L, sh, N) ∧ K 761 13 = nI v)) := by
  refine Mt.of pn_M (Nat.le_of_ble_eq_true rfl) ?_
  show Run mi_M_isNumber d 0 0 0 [(0, .ref 761), (1, .int (nI m)), (2, .int (nI lo)), (3, .int (nI hi))] [] (I, R, L, sh, N) _
  refine r_iconst (v := nI 0) (pc2 := 1) d_M_isNumber_0 rfl (by decide) ?_
  refine r_istore (pc2 := 3) d_M_isNumber_1 rfl (Nat.le_of_ble_eq_true rfl) ?_
  refine r_iconst (v := nI 0) (pc2 := 4) d_M_isNumber_3 rfl (by decide) ?_
  refine r_istore (pc2 := 6) d_M_isNumber_4 rfl (Nat.le_of_ble_eq_true rfl) ?_
  refine Run.sub (l2 := [(0, .ref 761), (1, .int (nI m)), (2, .int (nI lo)), (3, .int (nI hi)), (4, .int (nI 0)), (5, .int (nI 0))]) ⟨rfl, rfl, rfl, rfl, rfl, rfl, trivial⟩ ?_
  exact l_M_isNumber hm hn hp hk0 hM hlo hhi (fun x K a => ⟨K, rfl, a⟩) hd _ 0 0 rfl rfl (by decide) (Nat.zero_le _) hp
