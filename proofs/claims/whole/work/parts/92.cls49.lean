/-! THE READER: its state, its small steps -/
/-- a list, the top first, in an array -/
def LL (A : Nat → Int32) : List Nat → Prop
  | [] => True
  | x :: l => A l.length = nI x ∧ LL A l
theorem LL_head {A : Nat → Int32} {W : List Nat} (h : LL A W) (hw : 0 < W.length) : A (W.length - 1) = nI (W.headD 0) := by
  cases W with
  | nil => exact absurd hw (by simp)
  | cons x l => exact h.1
theorem LL_tail {A : Nat → Int32} {W : List Nat} (h : LL A W) : LL A W.tail := by
  cases W with
  | nil => exact h
  | cons x l => exact h.2
theorem LL_c {A B : Nat → Int32} : ∀ {W : List Nat}, LL A W → (∀ j, j < W.length → B j = A j) → LL B W
  | [], _, _ => trivial
  | x :: l, h, e => ⟨(e _ (by rw [List.length_cons]; omega)).trans h.1, LL_c h.2 (fun j hj => e j (by rw [List.length_cons]; omega))⟩
/-- the nodes in the arrays -/
def nd (ns : List Nd) (j : Nat) : Nd := ns.getD j (0, 0, 0, 0)
def NR (K : Nat → Nat → Int32) (ns : List Nd) : Prop := ∀ j, j < ns.length → K 734 j = nI (nd ns j).1 ∧ K 735 j = nI (nd ns j).2.1 ∧ ((nd ns j).1 ≠ 3 → K 736 j = nI (nd ns j).2.2.1) ∧ K 737 j = nI (nd ns j).2.2.2
/-- the reader's cells: tape, size, place, what is due, open brackets, nodes, what waits, what is loose -/
def RS (T : Nat → Int32) (n p : Nat) (due : Bool) (ob : Nat) (ns : List Nd) (W Lo : List Nat) (K : Nat → Nat → Int32) : Prop :=
  (K 731 1 = nI n ∧ K 731 2 = nI p ∧ K 731 9 = nI ns.length ∧ K 731 11 = nI Lo.length ∧ K 731 13 = nI W.length ∧ K 731 14 = nI ob ∧ K 731 15 = bI (due = true)) ∧ NR K ns ∧ LL (K 738) Lo ∧ LL (K 739) W ∧ ∀ j, j < n → K 730 j = T j
def FrV (J K : Nat → Nat → Int32) : Prop := ∀ a j, ¬ (731 ≤ a ∧ a < 740) → K a j = J a j
theorem FrV.rf {J : Nat → Nat → Int32} : FrV J J := fun _ _ _ => rfl
theorem FrV.t {I J K : Nat → Nat → Int32} (h : FrV I J) (h2 : FrV J K) : FrV I K := fun a j q => (h2 a j q).trans (h a j q)
theorem FrV.p {I J K : Nat → Nat → Int32} {a k : Nat} {v : Int32} (h : FrV I J) (h2 : K = u2 J a k v) (ha : 731 ≤ a ∧ a < 740) : FrV I K := fun b j q => (rd_ne h2 (by omega)).trans (h b j q)
theorem bI_ff : bI (false = true) = nI 0 := by decide
theorem bI_tt : bI (true = true) = nI 1 := by decide
section
variable {T : Nat → Int32} {n p : Nat} {due : Bool} {ob : Nat} {ns : List Nd} {W Lo : List Nat} {J K : Nat → Nat → Int32}
theorem RS.fd {k : Nat} {v : Int32} (h : RS T n p due ob ns W Lo J) (e : K = u2 J 731 k v) : NR K ns ∧ LL (K 738) Lo ∧ LL (K 739) W ∧ ∀ j, j < n → K 730 j = T j := by
  obtain ⟨-, h1, h2, h3, h4⟩ := h
  have g : ∀ a j, a ≠ 731 → K a j = J a j := fun a j q => rd_ne e q
  refine ⟨fun j hj => ?_, LL_c h2 (fun j _ => g _ _ (by decide)), LL_c h3 (fun j _ => g _ _ (by decide)), fun j hj => (g _ _ (by decide)).trans (h4 j hj)⟩
  rw [g 734 j (by decide), g 735 j (by decide), g 736 j (by decide), g 737 j (by decide)]
  exact h1 j hj
theorem RS.pl {q : Nat} (h : RS T n p due ob ns W Lo J) (e : K = u2 J 731 2 (nI q)) : RS T n q due ob ns W Lo K := by
  have f := h.fd e
  obtain ⟨⟨a1, a2, a3, a4, a5, a6, a7⟩, -⟩ := h
  exact ⟨⟨(rd_nk e (by decide)).trans a1, rd_eq e, (rd_nk e (by decide)).trans a3, (rd_nk e (by decide)).trans a4, (rd_nk e (by decide)).trans a5, (rd_nk e (by decide)).trans a6, (rd_nk e (by decide)).trans a7⟩, f⟩
theorem RS.op {q : Nat} (h : RS T n p due ob ns W Lo J) (e : K = u2 J 731 14 (nI q)) : RS T n p due q ns W Lo K := by
  have f := h.fd e
  obtain ⟨⟨a1, a2, a3, a4, a5, a6, a7⟩, -⟩ := h
  exact ⟨⟨(rd_nk e (by decide)).trans a1, (rd_nk e (by decide)).trans a2, (rd_nk e (by decide)).trans a3, (rd_nk e (by decide)).trans a4, (rd_nk e (by decide)).trans a5, rd_eq e, (rd_nk e (by decide)).trans a7⟩, f⟩
theorem RS.du {q : Bool} {v : Int32} (h : RS T n p due ob ns W Lo J) (hv : v = bI (q = true)) (e : K = u2 J 731 15 v) : RS T n p q ob ns W Lo K := by
  have f := h.fd e
  obtain ⟨⟨a1, a2, a3, a4, a5, a6, a7⟩, -⟩ := h
  exact ⟨⟨(rd_nk e (by decide)).trans a1, (rd_nk e (by decide)).trans a2, (rd_nk e (by decide)).trans a3, (rd_nk e (by decide)).trans a4, (rd_nk e (by decide)).trans a5, (rd_nk e (by decide)).trans a6, (rd_eq e).trans hv⟩, f⟩
theorem RS.wt {m : Nat} (h : RS T n p due ob ns W Lo J) (hm : W.tail.length = m) (e : K = u2 J 731 13 (nI m)) : RS T n p due ob ns W.tail Lo K := by
  have f := h.fd e
  obtain ⟨⟨a1, a2, a3, a4, a5, a6, a7⟩, -⟩ := h
  exact ⟨⟨(rd_nk e (by decide)).trans a1, (rd_nk e (by decide)).trans a2, (rd_nk e (by decide)).trans a3, (rd_nk e (by decide)).trans a4, hm ▸ rd_eq e, (rd_nk e (by decide)).trans a6, (rd_nk e (by decide)).trans a7⟩, f.1, f.2.1, LL_tail f.2.2.1, f.2.2.2⟩
theorem RS.lo {m : Nat} (h : RS T n p due ob ns W Lo J) (hm : Lo.tail.length = m) (e : K = u2 J 731 11 (nI m)) : RS T n p due ob ns W Lo.tail K := by
  have f := h.fd e
  obtain ⟨⟨a1, a2, a3, a4, a5, a6, a7⟩, -⟩ := h
  exact ⟨⟨(rd_nk e (by decide)).trans a1, (rd_nk e (by decide)).trans a2, (rd_nk e (by decide)).trans a3, hm ▸ rd_eq e, (rd_nk e (by decide)).trans a5, (rd_nk e (by decide)).trans a6, (rd_nk e (by decide)).trans a7⟩, f.1, LL_tail f.2.1, f.2.2.1, f.2.2.2⟩
theorem RS.aw {K1 : Nat → Nat → Int32} {s : Nat} (h : RS T n p due ob ns W Lo J) (e1 : K1 = u2 J 739 W.length (nI s)) (e : K = u2 K1 731 13 (nI (W.length + 1))) : RS T n p due ob ns (s :: W) Lo K := by
  obtain ⟨⟨a1, a2, a3, a4, a5, a6, a7⟩, h1, h2, h3, h4⟩ := h
  have g : ∀ a j, a ≠ 731 → a ≠ 739 → K a j = J a j := fun a j q r => (rd_ne e q).trans (rd_ne e1 r)
  have g2 : ∀ j, j ≠ 13 → K 731 j = J 731 j := fun j q => (rd_nk e q).trans (rd_ne e1 (by decide))
  refine ⟨⟨(g2 _ (by decide)).trans a1, (g2 _ (by decide)).trans a2, (g2 _ (by decide)).trans a3, (g2 _ (by decide)).trans a4, rd_eq e, (g2 _ (by decide)).trans a6, (g2 _ (by decide)).trans a7⟩, fun j hj => ?_, LL_c h2 (fun j _ => g _ _ (by decide) (by decide)), ⟨(rd_ne e (by decide)).trans (rd_eq e1), LL_c h3 (fun j hj => (rd_ne e (by decide)).trans (rd_nk e1 (by omega)))⟩, fun j hj => (g _ _ (by decide) (by decide)).trans (h4 j hj)⟩
  rw [g 734 j (by decide) (by decide), g 735 j (by decide) (by decide), g 736 j (by decide) (by decide), g 737 j (by decide) (by decide)]
  exact h1 j hj
theorem RS.an {K1 K2 K3 K4 K5 K6 : Nat → Nat → Int32} {k a b s : Nat} {y : Int32} (h : RS T n p due ob ns W Lo J) (hy : k ≠ 3 → y = nI b) (e1 : K1 = u2 J 734 ns.length (nI k)) (e2 : K2 = u2 K1 735 ns.length (nI a)) (e3 : K3 = u2 K2 736 ns.length y) (e4 : K4 = u2 K3 737 ns.length (nI s)) (e5 : K5 = u2 K4 738 Lo.length (nI ns.length)) (e6 : K6 = u2 K5 731 11 (nI (Lo.length + 1))) (e : K = u2 K6 731 9 (nI (ns.length + 1))) : RS T n p due ob (ns ++ [(k, a, b, s)]) W (ns.length :: Lo) K := by
  obtain ⟨⟨a1, a2, a3, a4, a5, a6, a7⟩, h1, h2, h3, h4⟩ := h
  have g : ∀ c j, ¬ (734 ≤ c ∧ c ≤ 738) → c ≠ 731 → K c j = J c j := fun c j q r => (rd_ne e r).trans ((rd_ne e6 r).trans ((rd_ne e5 (by omega)).trans ((rd_ne e4 (by omega)).trans ((rd_ne e3 (by omega)).trans ((rd_ne e2 (by omega)).trans (rd_ne e1 (by omega)))))))
  have g2 : ∀ j, j ≠ 9 → j ≠ 11 → K 731 j = J 731 j := fun j q r => (rd_nk e q).trans ((rd_nk e6 r).trans ((rd_ne e5 (by decide)).trans ((rd_ne e4 (by decide)).trans ((rd_ne e3 (by decide)).trans ((rd_ne e2 (by decide)).trans (rd_ne e1 (by decide)))))))
  have hl : (ns ++ [(k, a, b, s)]).length = ns.length + 1 := by rw [List.length_append, List.length_singleton]
  have i1 : ∀ j, K 734 j = K1 734 j := fun j => (rd_ne e (by decide)).trans ((rd_ne e6 (by decide)).trans ((rd_ne e5 (by decide)).trans ((rd_ne e4 (by decide)).trans ((rd_ne e3 (by decide)).trans (rd_ne e2 (by decide))))))
  have i2 : ∀ j, K 735 j = K2 735 j := fun j => (rd_ne e (by decide)).trans ((rd_ne e6 (by decide)).trans ((rd_ne e5 (by decide)).trans ((rd_ne e4 (by decide)).trans (rd_ne e3 (by decide)))))
  have i3 : ∀ j, K 736 j = K3 736 j := fun j => (rd_ne e (by decide)).trans ((rd_ne e6 (by decide)).trans ((rd_ne e5 (by decide)).trans (rd_ne e4 (by decide))))
  have i4 : ∀ j, K 737 j = K4 737 j := fun j => (rd_ne e (by decide)).trans ((rd_ne e6 (by decide)).trans (rd_ne e5 (by decide)))
  have i5 : ∀ j, K 738 j = K5 738 j := fun j => (rd_ne e (by decide)).trans (rd_ne e6 (by decide))
  refine ⟨⟨(g2 _ (by decide) (by decide)).trans a1, (g2 _ (by decide) (by decide)).trans a2, hl ▸ rd_eq e, (rd_nk e (by decide)).trans (rd_eq e6), (g2 _ (by decide) (by decide)).trans a5, (g2 _ (by decide) (by decide)).trans a6, (g2 _ (by decide) (by decide)).trans a7⟩, fun j hj => ?_, ⟨(i5 _).trans (rd_eq e5), LL_c h2 (fun j hj => (i5 j).trans ((rd_nk e5 (by omega)).trans ((rd_ne e4 (by decide)).trans ((rd_ne e3 (by decide)).trans ((rd_ne e2 (by decide)).trans (rd_ne e1 (by decide)))))))⟩, LL_c h3 (fun j _ => g _ _ (by decide) (by decide)), fun j hj => (g _ _ (by decide) (by decide)).trans (h4 j hj)⟩
  rw [hl] at hj
  rw [i1, i2, i3, i4]
  by_cases q : j = ns.length
  · subst q
    rw [show nd (ns ++ [(k, a, b, s)]) ns.length = (k, a, b, s) from getD_r]
    exact ⟨rd_eq e1, rd_eq e2, fun z => (rd_eq e3).trans (hy z), rd_eq e4⟩
  · rw [show nd (ns ++ [(k, a, b, s)]) j = nd ns j from getD_l (by omega), rd_nk e1 q, rd_nk e2 q, rd_ne e1 (by decide), rd_nk e3 q, rd_ne e2 (by decide), rd_ne e1 (by decide), rd_nk e4 q, rd_ne e3 (by decide), rd_ne e2 (by decide), rd_ne e1 (by decide)]
    exact h1 j (by omega)
end
/-- the byte at the place, as the class has it -/
def ltr (T : Nat → Int32) (n p : Nat) : Int32 := if p < n then T p else -1
theorem ltr_i {T : Nat → Int32} {n p : Nat} : (ltr T n p).toInt = byt T n p := by
  unfold ltr byt
  by_cases h : p < n
  · rw [if_pos h, if_pos h]
  · rw [if_neg h, if_neg h]; decide
theorem c_Re_letterHere {d : Nat} {J : Nat → Nat → Int32} {R : Nat → Nat → Option Nat} {L : Nat → Nat → Int64} {sh : Nat → Nat × Nat} {N : Nat} (hS : ShOK sh) (hR : RfOK R) (hT0 : R 731 0 = some 730) {T : Nat → Int32} {n p : Nat} {due : Bool} {ob : Nat} {ns : List Nd} {W Lo : List Nat} (hr : RS T n p due ob ns W Lo J) (hn : n ≤ 250) (hp : p ≤ n) : Me mi_Re_letterHere d 0 0 [.ref 731] (J, R, L, sh, N) (some (.int (ltr T n p))) (J, R, L, sh, N) := by
  refine Mt.of pn_Re (Nat.le_of_ble_eq_true rfl) ?_
  show Run mi_Re_letterHere d 0 0 0 [(0, .ref 731)] [] (J, R, L, sh, N) _
  refine r_aload_n (x := some 731) (pc2 := 1) d_Re_letterHere_0 rfl rfl ?_
  refine q_getI (x := nI p) (pc2 := 4) d_Re_letterHere_1 rfl k_Re_19 (by decide) (sh_731 hS) hr.1.2.1 ?_
  refine q_if_lt (tgt := 30) (A := ((p : Nat) : Int)) (pc2 := 7) d_Re_letterHere_4 rfl rfl (nI_toInt (by omega)) (fun c1 => ?_) (fun c1 => ?_)
  · exfalso; omega
  refine r_aload_n (x := some 731) (pc2 := 8) d_Re_letterHere_7 rfl rfl ?_
  refine q_getI (x := nI p) (pc2 := 11) d_Re_letterHere_8 rfl k_Re_19 (by decide) (sh_731 hS) hr.1.2.1 ?_
  refine r_aload_n (x := some 731) (pc2 := 12) d_Re_letterHere_11 rfl rfl ?_
  refine q_getI (x := nI n) (pc2 := 15) d_Re_letterHere_12 rfl k_Re_15 (by decide) (sh_731 hS) hr.1.1 ?_
  refine q_icmp_ge (tgt := 30) (A := ((p : Nat) : Int)) (B := ((n : Nat) : Int)) (pc2 := 18) d_Re_letterHere_15 rfl rfl (nI_toInt (by omega)) (nI_toInt (by omega)) (fun c2 => ?_) (fun c2 => ?_)
  · refine r_iconst (v := (-1 : Int32)) (pc2 := 31) d_Re_letterHere_30 rfl (by decide) ?_
    refine Run.ret (some (.int ((-1 : Int32)))) d_Re_letterHere_31 ⟨_, rfl⟩ ?_
    exact ⟨by unfold ltr; rw [if_neg (by omega)], rfl⟩
  · refine r_aload_n (x := some 731) (pc2 := 19) d_Re_letterHere_18 rfl rfl ?_
    refine q_getR (x := some 730) (pc2 := 22) d_Re_letterHere_19 rfl k_Re_9 rfl (sh_731 hS) hT0 ?_
    refine r_aload_n (x := some 731) (pc2 := 23) d_Re_letterHere_22 rfl rfl ?_
    refine q_getI (x := nI p) (pc2 := 26) d_Re_letterHere_23 rfl k_Re_19 (by decide) (sh_731 hS) hr.1.2.1 ?_
    refine q_iaload (q := p) (x := T p) (pc2 := 27) d_Re_letterHere_26 rfl (sh_730 hS) (nI_toInt (by omega)) (by omega) ((hr).2.2.2.2 p (by omega)) ?_
    refine r_goto (tgt := 31) d_Re_letterHere_27 rfl ?_
    refine Run.ret (some (.int (T p))) d_Re_letterHere_31 ⟨_, rfl⟩ ?_
    exact ⟨by unfold ltr; rw [if_pos (by omega)], rfl⟩
theorem c_Re_isDigitHere {d : Nat} {J : Nat → Nat → Int32} {R : Nat → Nat → Option Nat} {L : Nat → Nat → Int64} {sh : Nat → Nat × Nat} {N : Nat} (hS : ShOK sh) (hR : RfOK R) (hT0 : R 731 0 = some 730) {T : Nat → Int32} {n p : Nat} {due : Bool} {ob : Nat} {ns : List Nd} {W Lo : List Nat} (hr : RS T n p due ob ns W Lo J) (hn : n ≤ 250) (hp : p ≤ n) : Me mi_Re_isDigitHere d 0 0 [.ref 731] (J, R, L, sh, N) (some (.int (bI (48 ≤ byt T n p ∧ byt T n p ≤ 57)))) (J, R, L, sh, N) := by
  refine Mt.of pn_Re (Nat.le_of_ble_eq_true rfl) ?_
  show Run mi_Re_isDigitHere d 0 0 0 [(0, .ref 731)] [] (J, R, L, sh, N) _
  refine r_aload_n (x := some 731) (pc2 := 1) d_Re_isDigitHere_0 rfl rfl ?_
  refine q_getI (x := nI p) (pc2 := 4) d_Re_isDigitHere_1 rfl k_Re_19 (by decide) (sh_731 hS) hr.1.2.1 ?_
  refine q_if_lt (tgt := 50) (A := ((p : Nat) : Int)) (pc2 := 7) d_Re_isDigitHere_4 rfl rfl (nI_toInt (by omega)) (fun c1 => ?_) (fun c1 => ?_)
  · exfalso; omega
  refine r_aload_n (x := some 731) (pc2 := 8) d_Re_isDigitHere_7 rfl rfl ?_
  refine q_getI (x := nI p) (pc2 := 11) d_Re_isDigitHere_8 rfl k_Re_19 (by decide) (sh_731 hS) hr.1.2.1 ?_
  refine r_aload_n (x := some 731) (pc2 := 12) d_Re_isDigitHere_11 rfl rfl ?_
  refine q_getI (x := nI n) (pc2 := 15) d_Re_isDigitHere_12 rfl k_Re_15 (by decide) (sh_731 hS) hr.1.1 ?_
  refine q_icmp_ge (tgt := 50) (A := ((p : Nat) : Int)) (B := ((n : Nat) : Int)) (pc2 := 18) d_Re_isDigitHere_15 rfl rfl (nI_toInt (by omega)) (nI_toInt (by omega)) (fun c2 => ?_) (fun c2 => ?_)
  · refine r_iconst (v := nI 0) (pc2 := 51) d_Re_isDigitHere_50 rfl (by decide) ?_
    refine Run.ret (some (.int (nI 0))) d_Re_isDigitHere_51 ⟨_, rfl, by decide⟩ ?_
    have hb : byt T n p = (if p < n then (T p).toInt else -1) := rfl
    first | rw [if_pos (by omega)] at hb | rw [if_neg (by omega)] at hb
    exact ⟨by rw [bI_f (by omega)]; rfl, rfl⟩
  · refine r_aload_n (x := some 731) (pc2 := 19) d_Re_isDigitHere_18 rfl rfl ?_
    refine q_getR (x := some 730) (pc2 := 22) d_Re_isDigitHere_19 rfl k_Re_9 rfl (sh_731 hS) hT0 ?_
    refine r_aload_n (x := some 731) (pc2 := 23) d_Re_isDigitHere_22 rfl rfl ?_
    refine q_getI (x := nI p) (pc2 := 26) d_Re_isDigitHere_23 rfl k_Re_19 (by decide) (sh_731 hS) hr.1.2.1 ?_
    refine q_iaload (q := p) (x := T p) (pc2 := 27) d_Re_isDigitHere_26 rfl (sh_730 hS) (nI_toInt (by omega)) (by omega) ((hr).2.2.2.2 p (by omega)) ?_
    refine r_bipush (v := nI 48) (pc2 := 29) d_Re_isDigitHere_27 rfl (by decide) ?_
    refine q_icmp_lt (tgt := 50) (A := (T p).toInt) (B := (48 : Int)) (pc2 := 32) d_Re_isDigitHere_29 rfl rfl (rfl) (nI_toInt (by omega)) (fun c3 => ?_) (fun c3 => ?_)
    · refine r_iconst (v := nI 0) (pc2 := 51) d_Re_isDigitHere_50 rfl (by decide) ?_
      refine Run.ret (some (.int (nI 0))) d_Re_isDigitHere_51 ⟨_, rfl, by decide⟩ ?_
      have hb : byt T n p = (if p < n then (T p).toInt else -1) := rfl
      first | rw [if_pos (by omega)] at hb | rw [if_neg (by omega)] at hb
      exact ⟨by rw [bI_f (by omega)]; rfl, rfl⟩
    · refine r_aload_n (x := some 731) (pc2 := 33) d_Re_isDigitHere_32 rfl rfl ?_
      refine q_getR (x := some 730) (pc2 := 36) d_Re_isDigitHere_33 rfl k_Re_9 rfl (sh_731 hS) hT0 ?_
      refine r_aload_n (x := some 731) (pc2 := 37) d_Re_isDigitHere_36 rfl rfl ?_
      refine q_getI (x := nI p) (pc2 := 40) d_Re_isDigitHere_37 rfl k_Re_19 (by decide) (sh_731 hS) hr.1.2.1 ?_
      refine q_iaload (q := p) (x := T p) (pc2 := 41) d_Re_isDigitHere_40 rfl (sh_730 hS) (nI_toInt (by omega)) (by omega) ((hr).2.2.2.2 p (by omega)) ?_
      refine r_bipush (v := nI 57) (pc2 := 43) d_Re_isDigitHere_41 rfl (by decide) ?_
      refine q_icmp_gt (tgt := 50) (A := (T p).toInt) (B := (57 : Int)) (pc2 := 46) d_Re_isDigitHere_43 rfl rfl (rfl) (nI_toInt (by omega)) (fun c4 => ?_) (fun c4 => ?_)
      · refine r_iconst (v := nI 0) (pc2 := 51) d_Re_isDigitHere_50 rfl (by decide) ?_
        refine Run.ret (some (.int (nI 0))) d_Re_isDigitHere_51 ⟨_, rfl, by decide⟩ ?_
        have hb : byt T n p = (if p < n then (T p).toInt else -1) := rfl
        first | rw [if_pos (by omega)] at hb | rw [if_neg (by omega)] at hb
        exact ⟨by rw [bI_f (by omega)]; rfl, rfl⟩
      · refine r_iconst (v := nI 1) (pc2 := 47) d_Re_isDigitHere_46 rfl (by decide) ?_
        refine r_goto (tgt := 51) d_Re_isDigitHere_47 rfl ?_
        refine Run.ret (some (.int (nI 1))) d_Re_isDigitHere_51 ⟨_, rfl, by decide⟩ ?_
        have hb : byt T n p = (if p < n then (T p).toInt else -1) := rfl
        first | rw [if_pos (by omega)] at hb | rw [if_neg (by omega)] at hb
        exact ⟨by rw [bI_t (by omega)]; rfl, rfl⟩
theorem c_Re_addWaiting {d : Nat} {J : Nat → Nat → Int32} {R : Nat → Nat → Option Nat} {L : Nat → Nat → Int64} {sh : Nat → Nat × Nat} {N : Nat} (hS : ShOK sh) (hR : RfOK R) (hT0 : R 731 0 = some 730) {T : Nat → Int32} {n p : Nat} {due : Bool} {ob : Nat} {ns : List Nd} {W Lo : List Nat} (hr : RS T n p due ob ns W Lo J) (hn : n ≤ 250) (hp : p ≤ n) {s : Nat} (hw : W.length < 250) : Mt mi_Re_addWaiting d 0 0 [.ref 731, .int (nI s)] (J, R, L, sh, N) (fun x h2 => x = some (.int (nI 1)) ∧ ∃ K, h2 = (K, R, L, sh, N) ∧ FrV J K ∧ RS T n p due ob ns (s :: W) Lo K) := by
  refine Mt.of pn_Re (Nat.le_of_ble_eq_true rfl) ?_
  show Run mi_Re_addWaiting d 0 0 0 [(0, .ref 731), (1, .int (nI s))] [] (J, R, L, sh, N) _
  refine r_aload_n (x := some 731) (pc2 := 1) d_Re_addWaiting_0 rfl rfl ?_
  refine q_getI (x := nI W.length) (pc2 := 4) d_Re_addWaiting_1 rfl k_Re_52 (by decide) (sh_731 hS) hr.1.2.2.2.2.1 ?_
  refine r_sipush (v := nI 250) (pc2 := 7) d_Re_addWaiting_4 rfl (by decide) ?_
  refine q_icmp_lt (tgt := 12) (A := ((W.length : Nat) : Int)) (B := (250 : Int)) (pc2 := 10) d_Re_addWaiting_7 rfl rfl (nI_toInt (by omega)) (nI_toInt (by omega)) (fun c1 => ?_) (fun c1 => ?_)
  · refine r_aload_n (x := some 731) (pc2 := 13) d_Re_addWaiting_12 rfl rfl ?_
    refine q_getR (x := some 739) (pc2 := 16) d_Re_addWaiting_13 rfl k_Re_49 rfl (sh_731 hS) (rf_731_12 hR) ?_
    refine r_aload_n (x := some 731) (pc2 := 17) d_Re_addWaiting_16 rfl rfl ?_
    refine q_getI (x := nI W.length) (pc2 := 20) d_Re_addWaiting_17 rfl k_Re_52 (by decide) (sh_731 hS) hr.1.2.2.2.2.1 ?_
    refine r_iload_n (pc2 := 21) d_Re_addWaiting_20 rfl rfl ?_
    refine q_iastore (q := W.length) (pc2 := 22) d_Re_addWaiting_21 rfl (sh_739 hS) (nI_toInt (by omega)) (by omega) (fun I2 hI2 => ?_)
    refine r_aload_n (x := some 731) (pc2 := 23) d_Re_addWaiting_22 rfl rfl ?_
    refine r_dup (pc2 := 24) d_Re_addWaiting_23 rfl rfl ?_
    refine q_getI (x := nI W.length) (pc2 := 27) d_Re_addWaiting_24 rfl k_Re_52 (by decide) (sh_731 hS) ((rd_ne hI2 (by decide)).trans (hr.1.2.2.2.2.1)) ?_
    refine r_iconst (v := nI 1) (pc2 := 28) d_Re_addWaiting_27 rfl (by decide) ?_
    refine q_iaddN (pc2 := 29) d_Re_addWaiting_28 rfl ?_
    refine q_putI (pc2 := 32) d_Re_addWaiting_29 rfl k_Re_52 (Or.inl rfl) (sh_731 hS) (Or.inl rfl) (fun I3 hI3 => ?_)
    refine r_iconst (v := nI 1) (pc2 := 33) d_Re_addWaiting_32 rfl (by decide) ?_
    refine Run.ret (some (.int (nI 1))) d_Re_addWaiting_33 ⟨_, rfl, by decide⟩ ?_
    exact ⟨rfl, _, rfl, (FrV.rf.p hI2 (by decide)).p hI3 (by decide), hr.aw hI2 hI3⟩
  · refine r_iconst (v := nI 0) (pc2 := 11) d_Re_addWaiting_10 rfl (by decide) ?_
    refine Run.ret (some (.int (nI 0))) d_Re_addWaiting_11 ⟨_, rfl, by decide⟩ ?_
    exfalso; omega
theorem c_Re_takeLoose {d : Nat} {J : Nat → Nat → Int32} {R : Nat → Nat → Option Nat} {L : Nat → Nat → Int64} {sh : Nat → Nat × Nat} {N : Nat} (hS : ShOK sh) (hR : RfOK R) (hT0 : R 731 0 = some 730) {T : Nat → Int32} {n p : Nat} {due : Bool} {ob : Nat} {ns : List Nd} {W Lo : List Nat} (hr : RS T n p due ob ns W Lo J) (hn : n ≤ 250) (hp : p ≤ n) (hl : 0 < Lo.length) (hl2 : Lo.length ≤ 250) : Mt mi_Re_takeLoose d 0 0 [.ref 731] (J, R, L, sh, N) (fun x h2 => x = some (.int (nI (Lo.headD 0))) ∧ ∃ K, h2 = (K, R, L, sh, N) ∧ FrV J K ∧ RS T n p due ob ns W Lo.tail K) := by
  refine Mt.of pn_Re (Nat.le_of_ble_eq_true rfl) ?_
  show Run mi_Re_takeLoose d 0 0 0 [(0, .ref 731)] [] (J, R, L, sh, N) _
  refine r_aload_n (x := some 731) (pc2 := 1) d_Re_takeLoose_0 rfl rfl ?_
  refine q_getI (x := nI Lo.length) (pc2 := 4) d_Re_takeLoose_1 rfl k_Re_46 (by decide) (sh_731 hS) hr.1.2.2.2.1 ?_
  refine q_if_gt (tgt := 9) (A := ((Lo.length : Nat) : Int)) (pc2 := 7) d_Re_takeLoose_4 rfl rfl (nI_toInt (by omega)) (fun c1 => ?_) (fun c1 => ?_)
  · refine r_aload_n (x := some 731) (pc2 := 10) d_Re_takeLoose_9 rfl rfl ?_
    refine r_dup (pc2 := 11) d_Re_takeLoose_10 rfl rfl ?_
    refine q_getI (x := nI Lo.length) (pc2 := 14) d_Re_takeLoose_11 rfl k_Re_46 (by decide) (sh_731 hS) hr.1.2.2.2.1 ?_
    refine r_iconst (v := nI 1) (pc2 := 15) d_Re_takeLoose_14 rfl (by decide) ?_
    refine q_isubN (pc2 := 16) d_Re_takeLoose_15 rfl (by omega) ?_
    refine q_putI (pc2 := 19) d_Re_takeLoose_16 rfl k_Re_46 (Or.inl rfl) (sh_731 hS) (Or.inl rfl) (fun I2 hI2 => ?_)
    refine r_aload_n (x := some 731) (pc2 := 20) d_Re_takeLoose_19 rfl rfl ?_
    refine q_getR (x := some 738) (pc2 := 23) d_Re_takeLoose_20 rfl k_Re_43 rfl (sh_731 hS) (rf_731_10 hR) ?_
    refine r_aload_n (x := some 731) (pc2 := 24) d_Re_takeLoose_23 rfl rfl ?_
    refine q_getI (x := nI (Lo.length - 1)) (pc2 := 27) d_Re_takeLoose_24 rfl k_Re_46 (by decide) (sh_731 hS) (rd_eq hI2) ?_
    refine q_iaload (q := Lo.length - 1) (x := nI (Lo.headD 0)) (pc2 := 28) d_Re_takeLoose_27 rfl (sh_738 hS) (nI_toInt (by omega)) (by omega) ((rd_ne hI2 (by decide)).trans (LL_head (hr).2.2.1 (by omega))) ?_
    refine Run.ret (some (.int (nI (Lo.headD 0)))) d_Re_takeLoose_28 ⟨_, rfl⟩ ?_
    exact ⟨rfl, _, rfl, FrV.rf.p hI2 (by decide), hr.lo (by rw [List.length_tail]) hI2⟩
  · refine r_iconst (v := (-1 : Int32)) (pc2 := 8) d_Re_takeLoose_7 rfl (by decide) ?_
    refine Run.ret (some (.int ((-1 : Int32)))) d_Re_takeLoose_8 ⟨_, rfl⟩ ?_
    exfalso; omega
theorem c_Re_addNode {d : Nat} {J : Nat → Nat → Int32} {R : Nat → Nat → Option Nat} {L : Nat → Nat → Int64} {sh : Nat → Nat × Nat} {N : Nat} (hS : ShOK sh) (hR : RfOK R) (hT0 : R 731 0 = some 730) {T : Nat → Int32} {n p : Nat} {due : Bool} {ob : Nat} {ns : List Nd} {W Lo : List Nat} (hr : RS T n p due ob ns W Lo J) (hn : n ≤ 250) (hp : p ≤ n) {k a b s : Nat} {y : Int32} (hy : k ≠ 3 → y = nI b) (h1 : ns.length < 250) (h2 : Lo.length < 250) : Mt mi_Re_addNode d 0 0 [.ref 731, .int (nI k), .int (nI a), .int y, .int (nI s)] (J, R, L, sh, N) (fun x h2 => x = none ∧ ∃ K, h2 = (K, R, L, sh, N) ∧ FrV J K ∧ RS T n p due ob (ns ++ [(k, a, b, s)]) W (ns.length :: Lo) K) := by
  refine Mt.of pn_Re (Nat.le_of_ble_eq_true rfl) ?_
  show Run mi_Re_addNode d 0 0 0 [(0, .ref 731), (1, .int (nI k)), (2, .int (nI a)), (3, .int y), (4, .int (nI s))] [] (J, R, L, sh, N) _
  refine r_aload_n (x := some 731) (pc2 := 1) d_Re_addNode_0 rfl rfl ?_
  refine q_getI (x := nI ns.length) (pc2 := 4) d_Re_addNode_1 rfl k_Re_40 (by decide) (sh_731 hS) hr.1.2.2.1 ?_
  refine r_sipush (v := nI 250) (pc2 := 7) d_Re_addNode_4 rfl (by decide) ?_
  refine q_icmp_ge (tgt := 20) (A := ((ns.length : Nat) : Int)) (B := (250 : Int)) (pc2 := 10) d_Re_addNode_7 rfl rfl (nI_toInt (by omega)) (nI_toInt (by omega)) (fun c1 => ?_) (fun c1 => ?_)
  · refine Run.ret none d_Re_addNode_20 rfl ?_
    exfalso; omega
  · refine r_aload_n (x := some 731) (pc2 := 11) d_Re_addNode_10 rfl rfl ?_
    refine q_getI (x := nI Lo.length) (pc2 := 14) d_Re_addNode_11 rfl k_Re_46 (by decide) (sh_731 hS) hr.1.2.2.2.1 ?_
    refine r_sipush (v := nI 250) (pc2 := 17) d_Re_addNode_14 rfl (by decide) ?_
    refine q_icmp_lt (tgt := 21) (A := ((Lo.length : Nat) : Int)) (B := (250 : Int)) (pc2 := 20) d_Re_addNode_17 rfl rfl (nI_toInt (by omega)) (nI_toInt (by omega)) (fun c2 => ?_) (fun c2 => ?_)
    · refine r_aload_n (x := some 731) (pc2 := 22) d_Re_addNode_21 rfl rfl ?_
      refine q_getR (x := some 734) (pc2 := 25) d_Re_addNode_22 rfl k_Re_28 rfl (sh_731 hS) (rf_731_5 hR) ?_
      refine r_aload_n (x := some 731) (pc2 := 26) d_Re_addNode_25 rfl rfl ?_
      refine q_getI (x := nI ns.length) (pc2 := 29) d_Re_addNode_26 rfl k_Re_40 (by decide) (sh_731 hS) hr.1.2.2.1 ?_
      refine r_iload_n (pc2 := 30) d_Re_addNode_29 rfl rfl ?_
      refine q_iastore (q := ns.length) (pc2 := 31) d_Re_addNode_30 rfl (sh_734 hS) (nI_toInt (by omega)) (by omega) (fun I3 hI3 => ?_)
      refine r_aload_n (x := some 731) (pc2 := 32) d_Re_addNode_31 rfl rfl ?_
      refine q_getR (x := some 735) (pc2 := 35) d_Re_addNode_32 rfl k_Re_31 rfl (sh_731 hS) (rf_731_6 hR) ?_
      refine r_aload_n (x := some 731) (pc2 := 36) d_Re_addNode_35 rfl rfl ?_
      refine q_getI (x := nI ns.length) (pc2 := 39) d_Re_addNode_36 rfl k_Re_40 (by decide) (sh_731 hS) ((rd_ne hI3 (by decide)).trans (hr.1.2.2.1)) ?_
      refine r_iload_n (pc2 := 40) d_Re_addNode_39 rfl rfl ?_
      refine q_iastore (q := ns.length) (pc2 := 41) d_Re_addNode_40 rfl (sh_735 hS) (nI_toInt (by omega)) (by omega) (fun I4 hI4 => ?_)
      refine r_aload_n (x := some 731) (pc2 := 42) d_Re_addNode_41 rfl rfl ?_
      refine q_getR (x := some 736) (pc2 := 45) d_Re_addNode_42 rfl k_Re_34 rfl (sh_731 hS) (rf_731_7 hR) ?_
      refine r_aload_n (x := some 731) (pc2 := 46) d_Re_addNode_45 rfl rfl ?_
      refine q_getI (x := nI ns.length) (pc2 := 49) d_Re_addNode_46 rfl k_Re_40 (by decide) (sh_731 hS) ((rd_ne hI4 (by decide)).trans ((rd_ne hI3 (by decide)).trans (hr.1.2.2.1))) ?_
      refine r_iload_n (pc2 := 50) d_Re_addNode_49 rfl rfl ?_
      refine q_iastore (q := ns.length) (pc2 := 51) d_Re_addNode_50 rfl (sh_736 hS) (nI_toInt (by omega)) (by omega) (fun I5 hI5 => ?_)
      refine r_aload_n (x := some 731) (pc2 := 52) d_Re_addNode_51 rfl rfl ?_
      refine q_getR (x := some 737) (pc2 := 55) d_Re_addNode_52 rfl k_Re_37 rfl (sh_731 hS) (rf_731_8 hR) ?_
      refine r_aload_n (x := some 731) (pc2 := 56) d_Re_addNode_55 rfl rfl ?_
      refine q_getI (x := nI ns.length) (pc2 := 59) d_Re_addNode_56 rfl k_Re_40 (by decide) (sh_731 hS) ((rd_ne hI5 (by decide)).trans ((rd_ne hI4 (by decide)).trans ((rd_ne hI3 (by decide)).trans (hr.1.2.2.1)))) ?_
      refine r_iload (pc2 := 61) d_Re_addNode_59 rfl rfl ?_
      refine q_iastore (q := ns.length) (pc2 := 62) d_Re_addNode_61 rfl (sh_737 hS) (nI_toInt (by omega)) (by omega) (fun I6 hI6 => ?_)
      refine r_aload_n (x := some 731) (pc2 := 63) d_Re_addNode_62 rfl rfl ?_
      refine q_getR (x := some 738) (pc2 := 66) d_Re_addNode_63 rfl k_Re_43 rfl (sh_731 hS) (rf_731_10 hR) ?_
      refine r_aload_n (x := some 731) (pc2 := 67) d_Re_addNode_66 rfl rfl ?_
      refine q_getI (x := nI Lo.length) (pc2 := 70) d_Re_addNode_67 rfl k_Re_46 (by decide) (sh_731 hS) ((rd_ne hI6 (by decide)).trans ((rd_ne hI5 (by decide)).trans ((rd_ne hI4 (by decide)).trans ((rd_ne hI3 (by decide)).trans (hr.1.2.2.2.1))))) ?_
      refine r_aload_n (x := some 731) (pc2 := 71) d_Re_addNode_70 rfl rfl ?_
      refine q_getI (x := nI ns.length) (pc2 := 74) d_Re_addNode_71 rfl k_Re_40 (by decide) (sh_731 hS) ((rd_ne hI6 (by decide)).trans ((rd_ne hI5 (by decide)).trans ((rd_ne hI4 (by decide)).trans ((rd_ne hI3 (by decide)).trans (hr.1.2.2.1))))) ?_
      refine q_iastore (q := Lo.length) (pc2 := 75) d_Re_addNode_74 rfl (sh_738 hS) (nI_toInt (by omega)) (by omega) (fun I7 hI7 => ?_)
      refine r_aload_n (x := some 731) (pc2 := 76) d_Re_addNode_75 rfl rfl ?_
      refine r_dup (pc2 := 77) d_Re_addNode_76 rfl rfl ?_
      refine q_getI (x := nI Lo.length) (pc2 := 80) d_Re_addNode_77 rfl k_Re_46 (by decide) (sh_731 hS) ((rd_ne hI7 (by decide)).trans ((rd_ne hI6 (by decide)).trans ((rd_ne hI5 (by decide)).trans ((rd_ne hI4 (by decide)).trans ((rd_ne hI3 (by decide)).trans (hr.1.2.2.2.1)))))) ?_
      refine r_iconst (v := nI 1) (pc2 := 81) d_Re_addNode_80 rfl (by decide) ?_
      refine q_iaddN (pc2 := 82) d_Re_addNode_81 rfl ?_
      refine q_putI (pc2 := 85) d_Re_addNode_82 rfl k_Re_46 (Or.inl rfl) (sh_731 hS) (Or.inl rfl) (fun I8 hI8 => ?_)
      refine r_aload_n (x := some 731) (pc2 := 86) d_Re_addNode_85 rfl rfl ?_
      refine r_dup (pc2 := 87) d_Re_addNode_86 rfl rfl ?_
      refine q_getI (x := nI ns.length) (pc2 := 90) d_Re_addNode_87 rfl k_Re_40 (by decide) (sh_731 hS) ((rd_nk hI8 (by decide)).trans ((rd_ne hI7 (by decide)).trans ((rd_ne hI6 (by decide)).trans ((rd_ne hI5 (by decide)).trans ((rd_ne hI4 (by decide)).trans ((rd_ne hI3 (by decide)).trans (hr.1.2.2.1))))))) ?_
      refine r_iconst (v := nI 1) (pc2 := 91) d_Re_addNode_90 rfl (by decide) ?_
      refine q_iaddN (pc2 := 92) d_Re_addNode_91 rfl ?_
      refine q_putI (pc2 := 95) d_Re_addNode_92 rfl k_Re_40 (Or.inl rfl) (sh_731 hS) (Or.inl rfl) (fun I9 hI9 => ?_)
      refine Run.ret none d_Re_addNode_95 rfl ?_
      exact ⟨rfl, _, rfl, (((((((FrV.rf.p hI3 (by decide)).p hI4 (by decide)).p hI5 (by decide)).p hI6 (by decide)).p hI7 (by decide)).p hI8 (by decide)).p hI9 (by decide)), hr.an hy hI3 hI4 hI5 hI6 hI7 hI8 hI9⟩
    · refine Run.ret none d_Re_addNode_20 rfl ?_
      exfalso; omega
