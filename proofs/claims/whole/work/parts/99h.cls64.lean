/-! THE REFERENCE: newPart -/
theorem NIN.x {K F C S K' F' C' S' : Nat → Int32} {k0 : Nat} {ns : List Nd} {k a b s : Nat} {f c g : Int32} (h : NIN K F C S k0 ns) (e : ∀ j, j < k0 + ns.length → K' j = K j ∧ F' j = F j ∧ C' j = C j ∧ S' j = S j) (ek : K' (k0 + ns.length) = nI k) (ef : F' (k0 + ns.length) = f) (ec : C' (k0 + ns.length) = c) (eg : S' (k0 + ns.length) = g) (hf : (k = 3 ∨ 7 ≤ k) → f = nI (k0 + a)) (hc : 7 ≤ k → c = nI (k0 + b)) (h56 : k = 5 ∨ k = 6 → f = nI a ∧ c = nI b) (hs : k = 5 → g = nI s) : NIN K' F' C' S' k0 (ns ++ [(k, a, b, s)]) := by
  intro j hj
  rw [len_sg] at hj
  by_cases q : j = ns.length
  · subst q
    rw [show nd (ns ++ [(k, a, b, s)]) ns.length = (k, a, b, s) from getD_r, ef, ec, eg]
    exact ⟨ek, hf, hc, h56, hs⟩
  · obtain ⟨x1, x2, x3, x4⟩ := e (k0 + j) (by omega)
    rw [show nd (ns ++ [(k, a, b, s)]) j = nd ns j from getD_l (by omega), x1, x2, x3, x4]
    exact h j (by omega)
theorem NIM.x {K F C S K' F' C' S' : Nat → Int32} {k0 : Nat} {ns : List Nd} {k a b s : Nat} {f c g : Int32} (h : NIM K F C S k0 ns) (e : ∀ j, j < k0 + ns.length → K' j = K j ∧ F' j = F j ∧ C' j = C j ∧ S' j = S j) (ek : K' (k0 + ns.length) = nI k) (ef : F' (k0 + ns.length) = f) (ec : C' (k0 + ns.length) = c) (eg : S' (k0 + ns.length) = g) (hf : (k = 3 ∨ 7 ≤ k) → f = nI (k0 + a)) (hc : 7 ≤ k → c = nI (k0 + b)) (h56 : k = 5 ∨ k = 6 → f = nI a ∧ c = nI b) (hs : k = 5 → g = nI s) (h4 : k = 4 → f = nI 0) : NIM K' F' C' S' k0 (ns ++ [(k, a, b, s)]) := by
  refine ⟨h.1.x e ek ef ec eg hf hc h56 hs, fun j hj => ?_⟩
  rw [len_sg] at hj
  by_cases q : j = ns.length
  · subst q
    rw [show nd (ns ++ [(k, a, b, s)]) ns.length = (k, a, b, s) from getD_r, ef]
    exact h4
  · obtain ⟨x1, x2, x3, x4⟩ := e (k0 + j) (by omega)
    rw [show nd (ns ++ [(k, a, b, s)]) j = nd ns j from getD_l (by omega), x2]
    exact h.2 j (by omega)
theorem shP {N m b : Nat} {sh S4 : Nat → Nat × Nat} (h : ∀ x, x < N → S4 x = sh x) (s0 : S4 N = (12, m)) (s1 : S4 (N + 1) = (12, m)) (s2 : S4 (N + 2) = (12, m)) (s3 : S4 (N + 3) = (12, m)) (hN : ShN S4 (N + 3 + 1)) (hb : b ≤ N) (f : ∀ x, b ≤ x → (sh x).1 ≠ 1) : ∀ x, b ≤ x → (S4 x).1 ≠ 1 := by
  intro x hx
  rcases Nat.lt_or_ge x N with q | q
  · rw [h x q]; exact f x hx
  · rcases (show x = N ∨ x = N + 1 ∨ x = N + 2 ∨ x = N + 3 ∨ N + 3 + 1 ≤ x by omega) with q | q | q | q | q
    · rw [q, s0]; show 12 ≠ 1; decide
    · rw [q, s1]; show 12 ≠ 1; decide
    · rw [q, s2]; show 12 ≠ 1; decide
    · rw [q, s3]; show 12 ≠ 1; decide
    · rw [hN x q]; decide
theorem TAO.ne {B : HS} {A0 A : A4} (h : TAO B A0 A) {a : Nat} (ha : a < B.2.2.2.2) (h1 : a ≠ A0.1) (h2 : a ≠ A0.2.1) (h3 : a ≠ A0.2.2.1) (h4 : a ≠ A0.2.2.2) : a ≠ A.1 ∧ a ≠ A.2.1 ∧ a ≠ A.2.2.1 ∧ a ≠ A.2.2.2 := by
  rcases h.1 with q | q
  · rw [q]; exact ⟨h1, h2, h3, h4⟩
  · exact ⟨by omega, by omega, by omega, by omega⟩
/-- cells and slots that growing takes; the length behind it -/
def gC (nk k : Nat) : Nat := if nk < k then 4 else 0
def gZ (nk k : Nat) : Nat := if nk < k then 8 * (nk + 1) else 0
def gN (nk k : Nat) : Nat := if nk < k then 2 * (nk + 1) else nk
theorem c_M_newPart_0 {d : Nat} {B : HS} {A0 A : A4} {k0 n p nk : Nat} {T : Nat → Int32} {ns : List Nd} {I : Nat → Nat → Int32} {R : Nat → Nat → Option Nat} {L : Nat → Nat → Int64} {sh : Nat → Nat × Nat} {N : Nat} (hm : MS B A0 k0 n T p nk ns A (I, R, L, sh, N)) (hn : n ≤ 250) (hp : p ≤ n) (hk0 : k0 ≤ 1000) (hlen : ns.length ≤ 250) {k a b s : Nat} {f c g : Int32} (hf : (k = 3 ∨ 7 ≤ k) → f = nI (k0 + a)) (hc : 7 ≤ k → c = nI (k0 + b)) (h56 : k = 5 ∨ k = 6 → f = nI a ∧ c = nI b) (hsg : k = 5 → g = nI s) (h4 : k = 4 → f = nI 0) (hgr : k0 + ns.length + 1 ≤ nk) (hd : 2 ≤ d) : Mt mi_M_newPart d 0 0 [.ref 761, .int (nI k), .int f, .int c, .int g] (I, R, L, sh, N) (fun x h2 => x = some (.int (nI (k0 + ns.length))) ∧ ∃ A2 h, h2 = h ∧ MS B A0 k0 n T p nk (ns ++ [(k, a, b, s)]) A2 h) := by
  obtain ⟨⟨m11, m12, m9⟩, hmT, hmR, ⟨hmk, hmk2⟩, hmN, hmB, hmA, hmF, hS, hR, hmZ⟩ := id hm
  dsimp only at m11 m12 m9 hmT hmR hmN hmB hS hR
  obtain ⟨n1, n2, n3, n4⟩ := TNe.ne hmA.2.2.1 (a := 761) (by omega)
  obtain ⟨r1, r2, r3, r4⟩ := TNe.ne hmA.2.2.1 (a := 770) (by omega)
  obtain ⟨d12, d13, d14, d23, d24, d34⟩ := id hmA.2.1
  obtain ⟨f1, f2, f3, f4, f5, f6, f7⟩ := id hmF
  dsimp only at f1 f2 f3 f4 f5 f6 f7
  refine Mt.of pn_M (Nat.le_of_ble_eq_true rfl) ?_
  show Run mi_M_newPart d 0 0 0 [(0, .ref 761), (1, .int (nI k)), (2, .int f), (3, .int c), (4, .int g)] [] (I, R, L, sh, N) _
  refine r_aload_n (x := some 761) (pc2 := 1) d_M_newPart_0 rfl rfl ?_
  refine r_aload_n (x := some 761) (pc2 := 2) d_M_newPart_1 rfl rfl ?_
  refine q_getR (x := some A.1) (pc2 := 5) d_M_newPart_2 rfl k_M_22 rfl (sh_761 hS) hmR.1 ?_
  refine r_aload_n (x := some 761) (pc2 := 6) d_M_newPart_5 rfl rfl ?_
  refine q_getI (x := nI (k0 + ns.length)) (pc2 := 9) d_M_newPart_6 rfl k_M_89 (by decide) (sh_761 hS) m9 ?_
  refine r_iconst (v := nI 1) (pc2 := 10) d_M_newPart_9 rfl (by decide) ?_
  refine q_iaddN (pc2 := 11) d_M_newPart_10 rfl ?_
  refine q_calls (M2 := mi_M_grown) (pc2 := 14) d_M_newPart_11 rfl k_M_93 cm_M_grown cs_M_grown rfl rfl (Nat.le_of_ble_eq_true rfl) (c_M_grown_0 (A := A.1) (n0 := nk) (m := k0 + ns.length + 1) hmR.2.2.2.2.1 (by omega) (by omega)) (d2 := d - 1) (by omega) (Nat.le_of_eq (Nat.zero_add _)) (Nat.le_of_eq (Nat.zero_add _)) ?_
  refine q_putR (x := some A.1) (pc2 := 17) d_M_newPart_14 rfl k_M_22 rfl (sh_761 hS) (Or.inl rfl) (fun R1 hR1 => ?_)
  refine r_aload_n (x := some 761) (pc2 := 18) d_M_newPart_17 rfl rfl ?_
  refine r_aload_n (x := some 761) (pc2 := 19) d_M_newPart_18 rfl rfl ?_
  refine q_getR (x := some A.2.1) (pc2 := 22) d_M_newPart_19 rfl k_M_25 rfl (sh_761 hS) ((rd_nk hR1 (by decide)).trans (hmR.2.1)) ?_
  refine r_aload_n (x := some 761) (pc2 := 23) d_M_newPart_22 rfl rfl ?_
  refine q_getI (x := nI (k0 + ns.length)) (pc2 := 26) d_M_newPart_23 rfl k_M_89 (by decide) (sh_761 hS) m9 ?_
  refine r_iconst (v := nI 1) (pc2 := 27) d_M_newPart_26 rfl (by decide) ?_
  refine q_iaddN (pc2 := 28) d_M_newPart_27 rfl ?_
  refine q_calls (M2 := mi_M_grown) (pc2 := 31) d_M_newPart_28 rfl k_M_93 cm_M_grown cs_M_grown rfl rfl (Nat.le_of_ble_eq_true rfl) (c_M_grown_0 (A := A.2.1) (n0 := nk) (m := k0 + ns.length + 1) hmR.2.2.2.2.2.1 (by omega) (by omega)) (d2 := d - 1) (by omega) (Nat.le_of_eq (Nat.zero_add _)) (Nat.le_of_eq (Nat.zero_add _)) ?_
  refine q_putR (x := some A.2.1) (pc2 := 34) d_M_newPart_31 rfl k_M_25 rfl (sh_761 hS) (Or.inl rfl) (fun R2 hR2 => ?_)
  refine r_aload_n (x := some 761) (pc2 := 35) d_M_newPart_34 rfl rfl ?_
  refine r_aload_n (x := some 761) (pc2 := 36) d_M_newPart_35 rfl rfl ?_
  refine q_getR (x := some A.2.2.1) (pc2 := 39) d_M_newPart_36 rfl k_M_28 rfl (sh_761 hS) ((rd_nk hR2 (by decide)).trans ((rd_nk hR1 (by decide)).trans (hmR.2.2.1))) ?_
  refine r_aload_n (x := some 761) (pc2 := 40) d_M_newPart_39 rfl rfl ?_
  refine q_getI (x := nI (k0 + ns.length)) (pc2 := 43) d_M_newPart_40 rfl k_M_89 (by decide) (sh_761 hS) m9 ?_
  refine r_iconst (v := nI 1) (pc2 := 44) d_M_newPart_43 rfl (by decide) ?_
  refine q_iaddN (pc2 := 45) d_M_newPart_44 rfl ?_
  refine q_calls (M2 := mi_M_grown) (pc2 := 48) d_M_newPart_45 rfl k_M_93 cm_M_grown cs_M_grown rfl rfl (Nat.le_of_ble_eq_true rfl) (c_M_grown_0 (A := A.2.2.1) (n0 := nk) (m := k0 + ns.length + 1) hmR.2.2.2.2.2.2.1 (by omega) (by omega)) (d2 := d - 1) (by omega) (Nat.le_of_eq (Nat.zero_add _)) (Nat.le_of_eq (Nat.zero_add _)) ?_
  refine q_putR (x := some A.2.2.1) (pc2 := 51) d_M_newPart_48 rfl k_M_28 rfl (sh_761 hS) (Or.inl rfl) (fun R3 hR3 => ?_)
  refine r_aload_n (x := some 761) (pc2 := 52) d_M_newPart_51 rfl rfl ?_
  refine r_aload_n (x := some 761) (pc2 := 53) d_M_newPart_52 rfl rfl ?_
  refine q_getR (x := some A.2.2.2) (pc2 := 56) d_M_newPart_53 rfl k_M_31 rfl (sh_761 hS) ((rd_nk hR3 (by decide)).trans ((rd_nk hR2 (by decide)).trans ((rd_nk hR1 (by decide)).trans (hmR.2.2.2.1)))) ?_
  refine r_aload_n (x := some 761) (pc2 := 57) d_M_newPart_56 rfl rfl ?_
  refine q_getI (x := nI (k0 + ns.length)) (pc2 := 60) d_M_newPart_57 rfl k_M_89 (by decide) (sh_761 hS) m9 ?_
  refine r_iconst (v := nI 1) (pc2 := 61) d_M_newPart_60 rfl (by decide) ?_
  refine q_iaddN (pc2 := 62) d_M_newPart_61 rfl ?_
  refine q_calls (M2 := mi_M_grown) (pc2 := 65) d_M_newPart_62 rfl k_M_93 cm_M_grown cs_M_grown rfl rfl (Nat.le_of_ble_eq_true rfl) (c_M_grown_0 (A := A.2.2.2) (n0 := nk) (m := k0 + ns.length + 1) hmR.2.2.2.2.2.2.2 (by omega) (by omega)) (d2 := d - 1) (by omega) (Nat.le_of_eq (Nat.zero_add _)) (Nat.le_of_eq (Nat.zero_add _)) ?_
  refine q_putR (x := some A.2.2.2) (pc2 := 68) d_M_newPart_65 rfl k_M_31 rfl (sh_761 hS) (Or.inl rfl) (fun R4 hR4 => ?_)
  refine r_aload_n (x := some 761) (pc2 := 69) d_M_newPart_68 rfl rfl ?_
  refine q_getR (x := some A.1) (pc2 := 72) d_M_newPart_69 rfl k_M_22 rfl (sh_761 hS) ((rd_nk hR4 (by decide)).trans ((rd_nk hR3 (by decide)).trans ((rd_nk hR2 (by decide)).trans (rd_eq hR1)))) ?_
  refine r_aload_n (x := some 761) (pc2 := 73) d_M_newPart_72 rfl rfl ?_
  refine q_getI (x := nI (k0 + ns.length)) (pc2 := 76) d_M_newPart_73 rfl k_M_89 (by decide) (sh_761 hS) m9 ?_
  refine r_iload_n (pc2 := 77) d_M_newPart_76 rfl rfl ?_
  refine q_iastore (q := k0 + ns.length) (pc2 := 78) d_M_newPart_77 rfl hmR.2.2.2.2.1 (nI_toInt (by omega)) (by omega) (fun I5 hI5 => ?_)
  refine r_aload_n (x := some 761) (pc2 := 79) d_M_newPart_78 rfl rfl ?_
  refine q_getR (x := some A.2.1) (pc2 := 82) d_M_newPart_79 rfl k_M_25 rfl (sh_761 hS) ((rd_nk hR4 (by decide)).trans ((rd_nk hR3 (by decide)).trans (rd_eq hR2))) ?_
  refine r_aload_n (x := some 761) (pc2 := 83) d_M_newPart_82 rfl rfl ?_
  refine q_getI (x := nI (k0 + ns.length)) (pc2 := 86) d_M_newPart_83 rfl k_M_89 (by decide) (sh_761 hS) ((rd_ne hI5 (by omega)).trans (m9)) ?_
  refine r_iload_n (pc2 := 87) d_M_newPart_86 rfl rfl ?_
  refine q_iastore (q := k0 + ns.length) (pc2 := 88) d_M_newPart_87 rfl hmR.2.2.2.2.2.1 (nI_toInt (by omega)) (by omega) (fun I6 hI6 => ?_)
  refine r_aload_n (x := some 761) (pc2 := 89) d_M_newPart_88 rfl rfl ?_
  refine q_getR (x := some A.2.2.1) (pc2 := 92) d_M_newPart_89 rfl k_M_28 rfl (sh_761 hS) ((rd_nk hR4 (by decide)).trans (rd_eq hR3)) ?_
  refine r_aload_n (x := some 761) (pc2 := 93) d_M_newPart_92 rfl rfl ?_
  refine q_getI (x := nI (k0 + ns.length)) (pc2 := 96) d_M_newPart_93 rfl k_M_89 (by decide) (sh_761 hS) ((rd_ne hI6 (by omega)).trans ((rd_ne hI5 (by omega)).trans (m9))) ?_
  refine r_iload_n (pc2 := 97) d_M_newPart_96 rfl rfl ?_
  refine q_iastore (q := k0 + ns.length) (pc2 := 98) d_M_newPart_97 rfl hmR.2.2.2.2.2.2.1 (nI_toInt (by omega)) (by omega) (fun I7 hI7 => ?_)
  refine r_aload_n (x := some 761) (pc2 := 99) d_M_newPart_98 rfl rfl ?_
  refine q_getR (x := some A.2.2.2) (pc2 := 102) d_M_newPart_99 rfl k_M_31 rfl (sh_761 hS) (rd_eq hR4) ?_
  refine r_aload_n (x := some 761) (pc2 := 103) d_M_newPart_102 rfl rfl ?_
  refine q_getI (x := nI (k0 + ns.length)) (pc2 := 106) d_M_newPart_103 rfl k_M_89 (by decide) (sh_761 hS) ((rd_ne hI7 (by omega)).trans ((rd_ne hI6 (by omega)).trans ((rd_ne hI5 (by omega)).trans (m9)))) ?_
  refine r_iload (pc2 := 108) d_M_newPart_106 rfl rfl ?_
  refine q_iastore (q := k0 + ns.length) (pc2 := 109) d_M_newPart_108 rfl hmR.2.2.2.2.2.2.2 (nI_toInt (by omega)) (by omega) (fun I8 hI8 => ?_)
  refine r_aload_n (x := some 761) (pc2 := 110) d_M_newPart_109 rfl rfl ?_
  refine r_dup (pc2 := 111) d_M_newPart_110 rfl rfl ?_
  refine q_getI (x := nI (k0 + ns.length)) (pc2 := 114) d_M_newPart_111 rfl k_M_89 (by decide) (sh_761 hS) ((rd_ne hI8 (by omega)).trans ((rd_ne hI7 (by omega)).trans ((rd_ne hI6 (by omega)).trans ((rd_ne hI5 (by omega)).trans (m9))))) ?_
  refine r_iconst (v := nI 1) (pc2 := 115) d_M_newPart_114 rfl (by decide) ?_
  refine q_iaddN (pc2 := 116) d_M_newPart_115 rfl ?_
  refine q_putI (pc2 := 119) d_M_newPart_116 rfl k_M_89 (Or.inl rfl) (sh_761 hS) (Or.inl rfl) (fun I9 hI9 => ?_)
  refine r_aload_n (x := some 761) (pc2 := 120) d_M_newPart_119 rfl rfl ?_
  refine q_getI (x := nI (k0 + ns.length + 1)) (pc2 := 123) d_M_newPart_120 rfl k_M_89 (by decide) (sh_761 hS) (rd_eq hI9) ?_
  refine r_iconst (v := nI 1) (pc2 := 124) d_M_newPart_123 rfl (by decide) ?_
  refine q_isubN (pc2 := 125) d_M_newPart_124 rfl (by omega) ?_
  refine q_top (y := nI (k0 + ns.length)) (by rw [show k0 + ns.length + 1 - 1 = k0 + ns.length by omega]) ?_
  refine Run.ret (some (.int (nI (k0 + ns.length)))) d_M_newPart_125 ⟨_, rfl⟩ ?_
  have eR : R4 = R := by
    funext x j
    by_cases y : x = 761 ∧ 5 ≤ j ∧ j ≤ 8
    · obtain ⟨y1, y2, y3⟩ := y
      subst y1
      rcases (show j = 5 ∨ j = 6 ∨ j = 7 ∨ j = 8 by omega) with z | z | z | z <;> subst z
      · rw [rd_nk hR4 (by decide), rd_nk hR3 (by decide), rd_nk hR2 (by decide), rd_eq hR1]; exact hmR.1.symm
      · rw [rd_nk hR4 (by decide), rd_nk hR3 (by decide), rd_eq hR2]; exact hmR.2.1.symm
      · rw [rd_nk hR4 (by decide), rd_eq hR3]; exact hmR.2.2.1.symm
      · rw [rd_eq hR4]; exact hmR.2.2.2.1.symm
    · rw [rd_nn hR4 (by omega), rd_nn hR3 (by omega), rd_nn hR2 (by omega), rd_nn hR1 (by omega)]
  rw [eR]
  have eo : ∀ x j, x ≠ A.1 → x ≠ A.2.1 → x ≠ A.2.2.1 → x ≠ A.2.2.2 → x ≠ 761 → I9 x j = I x j := fun x j y1 y2 y3 y4 y5 => (rd_ne hI9 y5).trans ((rd_ne hI8 y4).trans ((rd_ne hI7 y3).trans ((rd_ne hI6 y2).trans (rd_ne hI5 y1))))
  have e6 : ∀ j, j ≠ 9 → I9 761 j = I 761 j := fun j y => (rd_nk hI9 y).trans ((rd_ne hI8 n4.symm).trans ((rd_ne hI7 n3.symm).trans ((rd_ne hI6 n2.symm).trans (rd_ne hI5 n1.symm))))
  have ev : ∀ j, j ≠ k0 + ns.length → I9 A.1 j = I A.1 j ∧ I9 A.2.1 j = I A.2.1 j ∧ I9 A.2.2.1 j = I A.2.2.1 j ∧ I9 A.2.2.2 j = I A.2.2.2 j := fun j y => ⟨(rd_ne hI9 n1).trans ((rd_ne hI8 d14).trans ((rd_ne hI7 d13).trans ((rd_ne hI6 d12).trans (rd_nk hI5 y)))), (rd_ne hI9 n2).trans ((rd_ne hI8 d24).trans ((rd_ne hI7 d23).trans ((rd_nk hI6 y).trans (rd_ne hI5 d12.symm)))), (rd_ne hI9 n3).trans ((rd_ne hI8 d34).trans ((rd_nk hI7 y).trans ((rd_ne hI6 d23.symm).trans (rd_ne hI5 d13.symm)))), (rd_ne hI9 n4).trans ((rd_nk hI8 y).trans ((rd_ne hI7 d34.symm).trans ((rd_ne hI6 d24.symm).trans (rd_ne hI5 d14.symm))))⟩
  refine ⟨rfl, A, _, rfl, ⟨(e6 11 (by decide)).trans m11, (e6 12 (by decide)).trans m12, by rw [len_sg]; exact rd_eq hI9⟩, fun j hj => (eo 770 j r1.symm r2.symm r3.symm r4.symm (by decide)).trans (hmT j hj), hmR, ⟨by rw [len_sg]; omega, hmk2⟩, NIM.x hmN (fun j hj => ev j (by omega)) ((rd_ne hI9 n1).trans ((rd_ne hI8 d14).trans ((rd_ne hI7 d13).trans ((rd_ne hI6 d12).trans (rd_eq hI5))))) ((rd_ne hI9 n2).trans ((rd_ne hI8 d24).trans ((rd_ne hI7 d23).trans (rd_eq hI6)))) ((rd_ne hI9 n3).trans ((rd_ne hI8 d34).trans (rd_eq hI7))) ((rd_ne hI9 n4).trans (rd_eq hI8)) hf hc h56 hsg h4, fun j hj => by dsimp only; obtain ⟨v1, v2, v3, v4⟩ := ev j (by omega); rw [v1, v2, v3, v4]; exact hmB j hj, hmA, ⟨fun x j y1 y2 y3 y4 y5 y6 y7 => ?_, fun j y1 y2 y3 => (e6 j y1).trans (f2 j y1 y2 y3), f3, f4, f5, f6, f7⟩, hS, hR, hmZ⟩
  obtain ⟨z1, z2, z3, z4⟩ := hmA.ne y1 y3 y4 y5 y6
  exact (eo x j z1 z2 z3 z4 y2).trans (f1 x j y1 y2 y3 y4 y5 y6 y7)
theorem RfP {N : Nat} {R R2 : Nat → Nat → Option Nat} (hN : 781 ≤ N) (h : RfOK R) (e : ∀ a j, a < N → ¬ (a = 761 ∧ 5 ≤ j ∧ j ≤ 8) → R2 a j = R a j) : RfOK R2 := by
  have hx : ∀ x ∈ rfL, x.1 < 781 ∧ ¬ (x.1 = 761 ∧ 5 ≤ x.2.1 ∧ x.2.1 ≤ 8) := by decide +kernel
  obtain ⟨h1, h2, h3, h4⟩ := h
  refine ⟨fun x hm => (e _ _ (by have := (hx x hm).1; omega) (hx x hm).2).trans (h1 x hm), fun d hd F hF => ?_, fun d hd F hF => ?_, fun d hd F hF r hr => ?_⟩
  · rw [e _ _ (by unfold dk; omega) (by unfold dk; omega)]; exact h2 d hd F hF
  · rw [e _ _ (by unfold fe; omega) (by unfold fe; omega), e _ _ (by unfold fe; omega) (by unfold fe; omega), e _ _ (by unfold fe; omega) (by unfold fe; omega), e _ _ (by unfold fe; omega) (by unfold fe; omega), e _ _ (by unfold fe; omega) (by unfold fe; omega), e _ _ (by unfold fe; omega) (by unfold fe; omega)]; exact h3 d hd F hF
  · rw [e _ _ (by unfold fe; omega) (by unfold fe; omega), e _ _ (by unfold ru fe; omega) (by unfold ru fe; omega)]; exact h4 d hd F hF r hr
theorem c_M_newPart_1 {d : Nat} {B : HS} {A0 A : A4} {k0 n p nk : Nat} {T : Nat → Int32} {ns : List Nd} {I : Nat → Nat → Int32} {R : Nat → Nat → Option Nat} {L : Nat → Nat → Int64} {sh : Nat → Nat × Nat} {N : Nat} (hm : MS B A0 k0 n T p nk ns A (I, R, L, sh, N)) (hn : n ≤ 250) (hp : p ≤ n) (hk0 : k0 ≤ 1000) (hlen : ns.length ≤ 250) {k a b s : Nat} {f c g : Int32} (hf : (k = 3 ∨ 7 ≤ k) → f = nI (k0 + a)) (hc : 7 ≤ k → c = nI (k0 + b)) (h56 : k = 5 ∨ k = 6 → f = nI a ∧ c = nI b) (hsg : k = 5 → g = nI s) (h4 : k = 4 → f = nI 0) (hgr : nk < k0 + ns.length + 1) (hd : 2 ≤ d) : Mt mi_M_newPart d 4 (8 * (k0 + ns.length + 1)) [.ref 761, .int (nI k), .int f, .int c, .int g] (I, R, L, sh, N) (fun x h2 => x = some (.int (nI (k0 + ns.length))) ∧ ∃ A2 h, h2 = h ∧ MS B A0 k0 n T p (2 * (k0 + ns.length + 1)) (ns ++ [(k, a, b, s)]) A2 h) := by
  obtain ⟨⟨m11, m12, m9⟩, hmT, hmR, ⟨hmk, hmk2⟩, hmN, hmB, hmA, hmF, hS, hR, hmZ⟩ := id hm
  dsimp only at m11 m12 m9 hmT hmR hmN hmB hS hR
  obtain ⟨n1, n2, n3, n4⟩ := TNe.ne hmA.2.2.1 (a := 761) (by omega)
  obtain ⟨r1, r2, r3, r4⟩ := TNe.ne hmA.2.2.1 (a := 770) (by omega)
  obtain ⟨d12, d13, d14, d23, d24, d34⟩ := id hmA.2.1
  obtain ⟨f1, f2, f3, f4, f5, f6, f7⟩ := id hmF
  dsimp only at f1 f2 f3 f4 f5 f6 f7
  have l0 : 781 ≤ N := Nat.le_trans hmZ f6
  have l1 := f7.1.lt hmR.2.2.2.2.1 (by decide)
  have l2 := f7.1.lt hmR.2.2.2.2.2.1 (by decide)
  have l3 := f7.1.lt hmR.2.2.2.2.2.2.1 (by decide)
  have l4 := f7.1.lt hmR.2.2.2.2.2.2.2 (by decide)
  refine Mt.of pn_M (Nat.le_of_ble_eq_true rfl) ?_
  show Run mi_M_newPart d 4 (8 * (k0 + ns.length + 1)) 0 [(0, .ref 761), (1, .int (nI k)), (2, .int f), (3, .int c), (4, .int g)] [] (I, R, L, sh, N) _
  refine r_aload_n (x := some 761) (pc2 := 1) d_M_newPart_0 rfl rfl ?_
  refine r_aload_n (x := some 761) (pc2 := 2) d_M_newPart_1 rfl rfl ?_
  refine q_getR (x := some A.1) (pc2 := 5) d_M_newPart_2 rfl k_M_22 rfl (sh_761 hS) hmR.1 ?_
  refine r_aload_n (x := some 761) (pc2 := 6) d_M_newPart_5 rfl rfl ?_
  refine q_getI (x := nI (k0 + ns.length)) (pc2 := 9) d_M_newPart_6 rfl k_M_89 (by decide) (sh_761 hS) m9 ?_
  refine r_iconst (v := nI 1) (pc2 := 10) d_M_newPart_9 rfl (by decide) ?_
  refine q_iaddN (pc2 := 11) d_M_newPart_10 rfl ?_
  refine r_calls (M2 := mi_M_grown) (pc2 := 14) d_M_newPart_11 rfl k_M_93 cm_M_grown cs_M_grown rfl rfl (Nat.le_of_ble_eq_true rfl) (c_M_grown_1 (I := I) (R := R) (L := L) (sh := sh) (N := N) (A := A.1) (n0 := nk) (m := k0 + ns.length + 1) (hmR.2.2.2.2.1) (by omega) (by omega) (by omega) (by omega) (by omega)) (d2 := d - 1) (ac1 := 3) (az1 := 3 * (2 * (k0 + ns.length + 1))) (by omega) (by omega) (by omega) (fun r2 h2 hq2 => ?_)
  obtain ⟨rfl, K1, Rc1, L1, S1, rfl, hal1, hcp1⟩ := hq2
  have hS1 := hal1.sh (by omega) hS
  have hN1 := hal1.n f7.1
  refine q_putR (x := some N) (pc2 := 17) d_M_newPart_14 rfl k_M_22 rfl (sh_761 hS1) (Or.inl rfl) (fun R1 hR1 => ?_)
  refine r_aload_n (x := some 761) (pc2 := 18) d_M_newPart_17 rfl rfl ?_
  refine r_aload_n (x := some 761) (pc2 := 19) d_M_newPart_18 rfl rfl ?_
  refine q_getR (x := some A.2.1) (pc2 := 22) d_M_newPart_19 rfl k_M_25 rfl (sh_761 hS1) ((rd_nk hR1 (by decide)).trans ((hal1.2.1 761 6 (by omega)).trans (hmR.2.1))) ?_
  refine r_aload_n (x := some 761) (pc2 := 23) d_M_newPart_22 rfl rfl ?_
  refine q_getI (x := nI (k0 + ns.length)) (pc2 := 26) d_M_newPart_23 rfl k_M_89 (by decide) (sh_761 hS1) ((hal1.1 761 9 (by omega)).trans (m9)) ?_
  refine r_iconst (v := nI 1) (pc2 := 27) d_M_newPart_26 rfl (by decide) ?_
  refine q_iaddN (pc2 := 28) d_M_newPart_27 rfl ?_
  refine r_calls (M2 := mi_M_grown) (pc2 := 31) d_M_newPart_28 rfl k_M_93 cm_M_grown cs_M_grown rfl rfl (Nat.le_of_ble_eq_true rfl) (c_M_grown_1 (I := K1) (R := R1) (L := L1) (sh := S1) (N := N + 1) (A := A.2.1) (n0 := nk) (m := k0 + ns.length + 1) ((hal1.2.2.2.1 A.2.1 (by omega)).trans (hmR.2.2.2.2.2.1)) (by omega) (by omega) (by omega) (by omega) (by omega)) (d2 := d - 1) (ac1 := 2) (az1 := 2 * (2 * (k0 + ns.length + 1))) (by omega) (by omega) (by omega) (fun r2 h2 hq2 => ?_)
  obtain ⟨rfl, K2, Rc2, L2, S2, rfl, hal2, hcp2⟩ := hq2
  have hS2 := hal2.sh (by omega) hS1
  have hN2 := hal2.n hN1
  refine q_putR (x := some (N + 1)) (pc2 := 34) d_M_newPart_31 rfl k_M_25 rfl (sh_761 hS2) (Or.inl rfl) (fun R2 hR2 => ?_)
  refine r_aload_n (x := some 761) (pc2 := 35) d_M_newPart_34 rfl rfl ?_
  refine r_aload_n (x := some 761) (pc2 := 36) d_M_newPart_35 rfl rfl ?_
  refine q_getR (x := some A.2.2.1) (pc2 := 39) d_M_newPart_36 rfl k_M_28 rfl (sh_761 hS2) ((rd_nk hR2 (by decide)).trans ((hal2.2.1 761 7 (by omega)).trans ((rd_nk hR1 (by decide)).trans ((hal1.2.1 761 7 (by omega)).trans (hmR.2.2.1))))) ?_
  refine r_aload_n (x := some 761) (pc2 := 40) d_M_newPart_39 rfl rfl ?_
  refine q_getI (x := nI (k0 + ns.length)) (pc2 := 43) d_M_newPart_40 rfl k_M_89 (by decide) (sh_761 hS2) ((hal2.1 761 9 (by omega)).trans ((hal1.1 761 9 (by omega)).trans (m9))) ?_
  refine r_iconst (v := nI 1) (pc2 := 44) d_M_newPart_43 rfl (by decide) ?_
  refine q_iaddN (pc2 := 45) d_M_newPart_44 rfl ?_
  refine r_calls (M2 := mi_M_grown) (pc2 := 48) d_M_newPart_45 rfl k_M_93 cm_M_grown cs_M_grown rfl rfl (Nat.le_of_ble_eq_true rfl) (c_M_grown_1 (I := K2) (R := R2) (L := L2) (sh := S2) (N := N + 2) (A := A.2.2.1) (n0 := nk) (m := k0 + ns.length + 1) ((hal2.2.2.2.1 A.2.2.1 (by omega)).trans ((hal1.2.2.2.1 A.2.2.1 (by omega)).trans (hmR.2.2.2.2.2.2.1))) (by omega) (by omega) (by omega) (by omega) (by omega)) (d2 := d - 1) (ac1 := 1) (az1 := 1 * (2 * (k0 + ns.length + 1))) (by omega) (by omega) (by omega) (fun r2 h2 hq2 => ?_)
  obtain ⟨rfl, K3, Rc3, L3, S3, rfl, hal3, hcp3⟩ := hq2
  have hS3 := hal3.sh (by omega) hS2
  have hN3 := hal3.n hN2
  refine q_putR (x := some (N + 2)) (pc2 := 51) d_M_newPart_48 rfl k_M_28 rfl (sh_761 hS3) (Or.inl rfl) (fun R3 hR3 => ?_)
  refine r_aload_n (x := some 761) (pc2 := 52) d_M_newPart_51 rfl rfl ?_
  refine r_aload_n (x := some 761) (pc2 := 53) d_M_newPart_52 rfl rfl ?_
  refine q_getR (x := some A.2.2.2) (pc2 := 56) d_M_newPart_53 rfl k_M_31 rfl (sh_761 hS3) ((rd_nk hR3 (by decide)).trans ((hal3.2.1 761 8 (by omega)).trans ((rd_nk hR2 (by decide)).trans ((hal2.2.1 761 8 (by omega)).trans ((rd_nk hR1 (by decide)).trans ((hal1.2.1 761 8 (by omega)).trans (hmR.2.2.2.1))))))) ?_
  refine r_aload_n (x := some 761) (pc2 := 57) d_M_newPart_56 rfl rfl ?_
  refine q_getI (x := nI (k0 + ns.length)) (pc2 := 60) d_M_newPart_57 rfl k_M_89 (by decide) (sh_761 hS3) ((hal3.1 761 9 (by omega)).trans ((hal2.1 761 9 (by omega)).trans ((hal1.1 761 9 (by omega)).trans (m9)))) ?_
  refine r_iconst (v := nI 1) (pc2 := 61) d_M_newPart_60 rfl (by decide) ?_
  refine q_iaddN (pc2 := 62) d_M_newPart_61 rfl ?_
  refine r_calls (M2 := mi_M_grown) (pc2 := 65) d_M_newPart_62 rfl k_M_93 cm_M_grown cs_M_grown rfl rfl (Nat.le_of_ble_eq_true rfl) (c_M_grown_1 (I := K3) (R := R3) (L := L3) (sh := S3) (N := N + 3) (A := A.2.2.2) (n0 := nk) (m := k0 + ns.length + 1) ((hal3.2.2.2.1 A.2.2.2 (by omega)).trans ((hal2.2.2.2.1 A.2.2.2 (by omega)).trans ((hal1.2.2.2.1 A.2.2.2 (by omega)).trans (hmR.2.2.2.2.2.2.2)))) (by omega) (by omega) (by omega) (by omega) (by omega)) (d2 := d - 1) (ac1 := 0) (az1 := 0 * (2 * (k0 + ns.length + 1))) (by omega) (by omega) (by omega) (fun r2 h2 hq2 => ?_)
  obtain ⟨rfl, K4, Rc4, L4, S4, rfl, hal4, hcp4⟩ := hq2
  have hS4 := hal4.sh (by omega) hS3
  have hN4 := hal4.n hN3
  refine q_putR (x := some (N + 3)) (pc2 := 68) d_M_newPart_65 rfl k_M_31 rfl (sh_761 hS4) (Or.inl rfl) (fun R4 hR4 => ?_)
  refine r_aload_n (x := some 761) (pc2 := 69) d_M_newPart_68 rfl rfl ?_
  refine q_getR (x := some N) (pc2 := 72) d_M_newPart_69 rfl k_M_22 rfl (sh_761 hS4) ((rd_nk hR4 (by decide)).trans ((hal4.2.1 761 5 (by omega)).trans ((rd_nk hR3 (by decide)).trans ((hal3.2.1 761 5 (by omega)).trans ((rd_nk hR2 (by decide)).trans ((hal2.2.1 761 5 (by omega)).trans (rd_eq hR1))))))) ?_
  refine r_aload_n (x := some 761) (pc2 := 73) d_M_newPart_72 rfl rfl ?_
  refine q_getI (x := nI (k0 + ns.length)) (pc2 := 76) d_M_newPart_73 rfl k_M_89 (by decide) (sh_761 hS4) ((hal4.1 761 9 (by omega)).trans ((hal3.1 761 9 (by omega)).trans ((hal2.1 761 9 (by omega)).trans ((hal1.1 761 9 (by omega)).trans (m9))))) ?_
  refine r_iload_n (pc2 := 77) d_M_newPart_76 rfl rfl ?_
  refine q_iastore (q := k0 + ns.length) (pc2 := 78) d_M_newPart_77 rfl ((hal4.2.2.2.1 _ (by omega)).trans ((hal3.2.2.2.1 _ (by omega)).trans ((hal2.2.2.2.1 _ (by omega)).trans (hal1.2.2.2.2)))) (nI_toInt (by omega)) (by omega) (fun I5 hI5 => ?_)
  refine r_aload_n (x := some 761) (pc2 := 79) d_M_newPart_78 rfl rfl ?_
  refine q_getR (x := some (N + 1)) (pc2 := 82) d_M_newPart_79 rfl k_M_25 rfl (sh_761 hS4) ((rd_nk hR4 (by decide)).trans ((hal4.2.1 761 6 (by omega)).trans ((rd_nk hR3 (by decide)).trans ((hal3.2.1 761 6 (by omega)).trans (rd_eq hR2))))) ?_
  refine r_aload_n (x := some 761) (pc2 := 83) d_M_newPart_82 rfl rfl ?_
  refine q_getI (x := nI (k0 + ns.length)) (pc2 := 86) d_M_newPart_83 rfl k_M_89 (by decide) (sh_761 hS4) ((rd_ne hI5 (by omega)).trans ((hal4.1 761 9 (by omega)).trans ((hal3.1 761 9 (by omega)).trans ((hal2.1 761 9 (by omega)).trans ((hal1.1 761 9 (by omega)).trans (m9)))))) ?_
  refine r_iload_n (pc2 := 87) d_M_newPart_86 rfl rfl ?_
  refine q_iastore (q := k0 + ns.length) (pc2 := 88) d_M_newPart_87 rfl ((hal4.2.2.2.1 _ (by omega)).trans ((hal3.2.2.2.1 _ (by omega)).trans (hal2.2.2.2.2))) (nI_toInt (by omega)) (by omega) (fun I6 hI6 => ?_)
  refine r_aload_n (x := some 761) (pc2 := 89) d_M_newPart_88 rfl rfl ?_
  refine q_getR (x := some (N + 2)) (pc2 := 92) d_M_newPart_89 rfl k_M_28 rfl (sh_761 hS4) ((rd_nk hR4 (by decide)).trans ((hal4.2.1 761 7 (by omega)).trans (rd_eq hR3))) ?_
  refine r_aload_n (x := some 761) (pc2 := 93) d_M_newPart_92 rfl rfl ?_
  refine q_getI (x := nI (k0 + ns.length)) (pc2 := 96) d_M_newPart_93 rfl k_M_89 (by decide) (sh_761 hS4) ((rd_ne hI6 (by omega)).trans ((rd_ne hI5 (by omega)).trans ((hal4.1 761 9 (by omega)).trans ((hal3.1 761 9 (by omega)).trans ((hal2.1 761 9 (by omega)).trans ((hal1.1 761 9 (by omega)).trans (m9))))))) ?_
  refine r_iload_n (pc2 := 97) d_M_newPart_96 rfl rfl ?_
  refine q_iastore (q := k0 + ns.length) (pc2 := 98) d_M_newPart_97 rfl ((hal4.2.2.2.1 _ (by omega)).trans (hal3.2.2.2.2)) (nI_toInt (by omega)) (by omega) (fun I7 hI7 => ?_)
  refine r_aload_n (x := some 761) (pc2 := 99) d_M_newPart_98 rfl rfl ?_
  refine q_getR (x := some (N + 3)) (pc2 := 102) d_M_newPart_99 rfl k_M_31 rfl (sh_761 hS4) (rd_eq hR4) ?_
  refine r_aload_n (x := some 761) (pc2 := 103) d_M_newPart_102 rfl rfl ?_
  refine q_getI (x := nI (k0 + ns.length)) (pc2 := 106) d_M_newPart_103 rfl k_M_89 (by decide) (sh_761 hS4) ((rd_ne hI7 (by omega)).trans ((rd_ne hI6 (by omega)).trans ((rd_ne hI5 (by omega)).trans ((hal4.1 761 9 (by omega)).trans ((hal3.1 761 9 (by omega)).trans ((hal2.1 761 9 (by omega)).trans ((hal1.1 761 9 (by omega)).trans (m9)))))))) ?_
  refine r_iload (pc2 := 108) d_M_newPart_106 rfl rfl ?_
  refine q_iastore (q := k0 + ns.length) (pc2 := 109) d_M_newPart_108 rfl hal4.2.2.2.2 (nI_toInt (by omega)) (by omega) (fun I8 hI8 => ?_)
  refine r_aload_n (x := some 761) (pc2 := 110) d_M_newPart_109 rfl rfl ?_
  refine r_dup (pc2 := 111) d_M_newPart_110 rfl rfl ?_
  refine q_getI (x := nI (k0 + ns.length)) (pc2 := 114) d_M_newPart_111 rfl k_M_89 (by decide) (sh_761 hS4) ((rd_ne hI8 (by omega)).trans ((rd_ne hI7 (by omega)).trans ((rd_ne hI6 (by omega)).trans ((rd_ne hI5 (by omega)).trans ((hal4.1 761 9 (by omega)).trans ((hal3.1 761 9 (by omega)).trans ((hal2.1 761 9 (by omega)).trans ((hal1.1 761 9 (by omega)).trans (m9))))))))) ?_
  refine r_iconst (v := nI 1) (pc2 := 115) d_M_newPart_114 rfl (by decide) ?_
  refine q_iaddN (pc2 := 116) d_M_newPart_115 rfl ?_
  refine q_putI (pc2 := 119) d_M_newPart_116 rfl k_M_89 (Or.inl rfl) (sh_761 hS4) (Or.inl rfl) (fun I9 hI9 => ?_)
  refine r_aload_n (x := some 761) (pc2 := 120) d_M_newPart_119 rfl rfl ?_
  refine q_getI (x := nI (k0 + ns.length + 1)) (pc2 := 123) d_M_newPart_120 rfl k_M_89 (by decide) (sh_761 hS4) (rd_eq hI9) ?_
  refine r_iconst (v := nI 1) (pc2 := 124) d_M_newPart_123 rfl (by decide) ?_
  refine q_isubN (pc2 := 125) d_M_newPart_124 rfl (by omega) ?_
  refine q_top (y := nI (k0 + ns.length)) (by rw [show k0 + ns.length + 1 - 1 = k0 + ns.length by omega]) ?_
  refine Run.ret (some (.int (nI (k0 + ns.length)))) d_M_newPart_125 ⟨_, rfl⟩ ?_
  have b0 : B.2.2.2.2 ≤ N := f6
  have ek : ∀ x j, x < N → K4 x j = I x j := fun x j y => (hal4.1 x j (by omega)).trans ((hal3.1 x j (by omega)).trans ((hal2.1 x j (by omega)).trans (hal1.1 x j (by omega))))
  have eo : ∀ x j, x < N → x ≠ 761 → I9 x j = I x j := fun x j y y5 => (rd_ne hI9 y5).trans ((rd_ne hI8 (by omega)).trans ((rd_ne hI7 (by omega)).trans ((rd_ne hI6 (by omega)).trans ((rd_ne hI5 (by omega)).trans (ek x j y)))))
  have e6 : ∀ j, j ≠ 9 → I9 761 j = I 761 j := fun j y => (rd_nk hI9 y).trans ((rd_ne hI8 (by omega)).trans ((rd_ne hI7 (by omega)).trans ((rd_ne hI6 (by omega)).trans ((rd_ne hI5 (by omega)).trans (ek 761 j (by omega))))))
  have eR : ∀ x j, x < N → ¬ (x = 761 ∧ 5 ≤ j ∧ j ≤ 8) → R4 x j = R x j := fun x j y q => (rd_nn hR4 (by omega)).trans ((hal4.2.1 x j (by omega)).trans ((rd_nn hR3 (by omega)).trans ((hal3.2.1 x j (by omega)).trans ((rd_nn hR2 (by omega)).trans ((hal2.2.1 x j (by omega)).trans ((rd_nn hR1 (by omega)).trans (hal1.2.1 x j (by omega))))))))
  have eL : ∀ x j, x < N → L4 x j = L x j := fun x j y => (hal4.2.2.1 x j (by omega)).trans ((hal3.2.2.1 x j (by omega)).trans ((hal2.2.2.1 x j (by omega)).trans (hal1.2.2.1 x j (by omega))))
  have eS : ∀ x, x < N → S4 x = sh x := fun x y => (hal4.2.2.2.1 x (by omega)).trans ((hal3.2.2.2.1 x (by omega)).trans ((hal2.2.2.2.1 x (by omega)).trans (hal1.2.2.2.1 x (by omega))))
  have ev : ∀ j, j < k0 + ns.length → I9 N j = I A.1 j ∧ I9 (N + 1) j = I A.2.1 j ∧ I9 (N + 2) j = I A.2.2.1 j ∧ I9 (N + 3) j = I A.2.2.2 j := fun j y => ⟨(rd_ne hI9 (by omega)).trans ((rd_ne hI8 (by omega)).trans ((rd_ne hI7 (by omega)).trans ((rd_ne hI6 (by omega)).trans ((rd_nk hI5 (by omega)).trans ((hal4.1 _ j (by omega)).trans ((hal3.1 _ j (by omega)).trans ((hal2.1 _ j (by omega)).trans (hcp1 j (by omega))))))))), (rd_ne hI9 (by omega)).trans ((rd_ne hI8 (by omega)).trans ((rd_ne hI7 (by omega)).trans ((rd_nk hI6 (by omega)).trans ((rd_ne hI5 (by omega)).trans ((hal4.1 _ j (by omega)).trans ((hal3.1 _ j (by omega)).trans ((hcp2 j (by omega)).trans (hal1.1 _ j (by omega))))))))), (rd_ne hI9 (by omega)).trans ((rd_ne hI8 (by omega)).trans ((rd_nk hI7 (by omega)).trans ((rd_ne hI6 (by omega)).trans ((rd_ne hI5 (by omega)).trans ((hal4.1 _ j (by omega)).trans ((hcp3 j (by omega)).trans ((hal2.1 _ j (by omega)).trans (hal1.1 _ j (by omega))))))))), (rd_ne hI9 (by omega)).trans ((rd_nk hI8 (by omega)).trans ((rd_ne hI7 (by omega)).trans ((rd_ne hI6 (by omega)).trans ((rd_ne hI5 (by omega)).trans ((hcp4 j (by omega)).trans ((hal3.1 _ j (by omega)).trans ((hal2.1 _ j (by omega)).trans (hal1.1 _ j (by omega)))))))))⟩
  have w0 : I9 (N) (k0 + ns.length) = nI k := (rd_ne hI9 (by omega)).trans ((rd_ne hI8 (by omega)).trans ((rd_ne hI7 (by omega)).trans ((rd_ne hI6 (by omega)).trans (rd_eq hI5))))
  have w1 : I9 (N + 1) (k0 + ns.length) = f := (rd_ne hI9 (by omega)).trans ((rd_ne hI8 (by omega)).trans ((rd_ne hI7 (by omega)).trans (rd_eq hI6)))
  have w2 : I9 (N + 2) (k0 + ns.length) = c := (rd_ne hI9 (by omega)).trans ((rd_ne hI8 (by omega)).trans (rd_eq hI7))
  have w3 : I9 (N + 3) (k0 + ns.length) = g := (rd_ne hI9 (by omega)).trans (rd_eq hI8)
  have t0 : R4 761 5 = some (N) := (rd_nk hR4 (by decide)).trans ((hal4.2.1 761 5 (by omega)).trans ((rd_nk hR3 (by decide)).trans ((hal3.2.1 761 5 (by omega)).trans ((rd_nk hR2 (by decide)).trans ((hal2.2.1 761 5 (by omega)).trans (rd_eq hR1))))))
  have s0 : S4 (N) = (12, 2 * (k0 + ns.length + 1)) := (hal4.2.2.2.1 _ (by omega)).trans ((hal3.2.2.2.1 _ (by omega)).trans ((hal2.2.2.2.1 _ (by omega)).trans (hal1.2.2.2.2)))
  have t1 : R4 761 6 = some (N + 1) := (rd_nk hR4 (by decide)).trans ((hal4.2.1 761 6 (by omega)).trans ((rd_nk hR3 (by decide)).trans ((hal3.2.1 761 6 (by omega)).trans (rd_eq hR2))))
  have s1 : S4 (N + 1) = (12, 2 * (k0 + ns.length + 1)) := (hal4.2.2.2.1 _ (by omega)).trans ((hal3.2.2.2.1 _ (by omega)).trans (hal2.2.2.2.2))
  have t2 : R4 761 7 = some (N + 2) := (rd_nk hR4 (by decide)).trans ((hal4.2.1 761 7 (by omega)).trans (rd_eq hR3))
  have s2 : S4 (N + 2) = (12, 2 * (k0 + ns.length + 1)) := (hal4.2.2.2.1 _ (by omega)).trans (hal3.2.2.2.2)
  have t3 : R4 761 8 = some (N + 3) := rd_eq hR4
  have s3 : S4 (N + 3) = (12, 2 * (k0 + ns.length + 1)) := hal4.2.2.2.2
  refine ⟨rfl, (N, N + 1, N + 2, N + 3), _, rfl, ⟨(e6 11 (by decide)).trans m11, (e6 12 (by decide)).trans m12, by rw [len_sg]; exact rd_eq hI9⟩, fun j hj => (eo 770 j (by omega) (by decide)).trans (hmT j hj), ⟨t0, t1, t2, t3, s0, s1, s2, s3⟩, ⟨by rw [len_sg]; omega, by omega⟩, NIM.x hmN ev w0 w1 w2 w3 hf hc h56 hsg h4, fun j hj => by dsimp only; obtain ⟨v1, v2, v3, v4⟩ := ev j (by omega); rw [v1, v2, v3, v4]; exact hmB j hj, ⟨Or.inr ⟨b0, by dsimp only; omega, by dsimp only; omega, by dsimp only; omega⟩, ⟨by dsimp only; omega, by dsimp only; omega, by dsimp only; omega, by dsimp only; omega, by dsimp only; omega, by dsimp only; omega⟩, ⟨Or.inr l0, Or.inr (by dsimp only; omega), Or.inr (by dsimp only; omega), Or.inr (by dsimp only; omega)⟩, hmA.2.2.2⟩, ⟨fun x j y1 y2 y3 y4 y5 y6 y7 => (eo x j (by omega) y2).trans (f1 x j y1 y2 y3 y4 y5 y6 y7), fun j y1 y2 y3 => (e6 j y1).trans (f2 j y1 y2 y3), fun x j y1 y2 => (eR x j (by omega) y2).trans (f3 x j y1 y2), fun x j y1 => (eL x j (by omega)).trans (f4 x j y1), fun x y1 => (eS x (by omega)).trans (f5 x y1), by dsimp only; omega, ⟨hN4, shP eS s0 s1 s2 s3 hN4 b0 f7.2⟩⟩, hS4, ?_, hmZ⟩
  exact RfP l0 hR eR
