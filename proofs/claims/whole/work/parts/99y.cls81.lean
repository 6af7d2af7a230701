/-! THE SPELLER: a letter; the trees of a condition by its own rows -/
/-- the trees' nodes of a condition, by its own rows -/
theorem CO.nin {K F C S : Nat → Int32} {I : Nat → Nat → Int32} {R : Nat → Nat → Option Nat} {sh : Nat → Nat × Nat} {c m b : Nat} {ns : List Nd} (h : CO K F C S I R sh c m b) (hk : CoK c ns I R sh) (hv : NV ns) (hl : ns.length < 250) (hb : b ≤ 1000000) : m = ns.length ∧ NIN K F C S b ns := by
  obtain ⟨h1, h2, h3, h4, h5⟩ := h
  obtain ⟨k1, k2, k3⟩ := hk
  have hm : m = ns.length := by
    have e := h1.2.1.symm.trans k1.2.1
    exact congrArg Prod.snd e
  subst hm
  refine ⟨rfl, fun j hj => ?_⟩
  obtain ⟨x1, x2, x3, x4, x5⟩ := h5 j hj
  obtain ⟨y1, y2, y3, y4⟩ := k3 j hj
  obtain ⟨v1, v2, v3, v4, v5⟩ := hv.nd hj
  have hK : K (b + j) = nI (nd ns j).1 := x1.symm.trans y1
  have hk2 : (K (b + j)).toInt = ((nd ns j).1 : Int) := by rw [hK]; exact nI_toInt (by omega)
  rw [hk2] at x2 x3 x4 x5
  have inj : ∀ x, x < j → ∀ y, y < j → I (c + 2) j = nI x → I (c + 2) j = nI y → x = y := fun x hx y hy e1 e2 => by
    have e : (nI x).toInt = (nI y).toInt := by rw [← e1, e2]
    rw [nI_toInt (by omega), nI_toInt (by omega)] at e
    omega
  have inj3 : ∀ x, x < j → ∀ y, y < j → I (c + 3) j = nI x → I (c + 3) j = nI y → x = y := fun x hx y hy e1 e2 => by
    have e : (nI x).toInt = (nI y).toInt := by rw [← e1, e2]
    rw [nI_toInt (by omega), nI_toInt (by omega)] at e
    omega
  refine ⟨hK, fun z => ?_, fun z => ?_, fun z => ?_, fun z => ?_⟩
  · rcases z with z | z
    · obtain ⟨x, hx, e1, e2⟩ := x2 (by omega)
      rw [inj _ (v2 (Or.inl z)) x hx y2 e1]; exact e2
    · obtain ⟨x, y, hx, hy, e1, e2, -, -⟩ := x3 (by omega)
      rw [inj _ (v2 (Or.inr z)) x hx y2 e1]; exact e2
  · obtain ⟨x, y, hx, hy, -, -, e3, e4⟩ := x3 (by omega)
    rw [inj3 _ (v3 z) y hy (y3 (by omega)) e3]; exact e4
  · rcases z with z | z
    · obtain ⟨e1, e2, e3⟩ := x4 (by omega)
      exact ⟨e1.symm.trans y2, e2.symm.trans (y3 (by omega))⟩
    · obtain ⟨e1, e2⟩ := x5 (by omega)
      exact ⟨e1.symm.trans y2, e2.symm.trans (y3 (by omega))⟩
  · obtain ⟨e1, e2, e3⟩ := x4 (by omega)
    exact e3.symm.trans y4
theorem k_Sp_letterAt {d : Nat} {J : Nat → Nat → Int32} {R : Nat → Nat → Option Nat} {L : Nat → Nat → Int64} {sh : Nat → Nat × Nat} {N : Nat} (hS : ShOK sh) (hR : RfOK R) {i : Int32} {l : List Int32} (hz : J 740 3 = nI l.length) (hw : WT J l) (hl : l.length ≤ 270) : Me mi_Sp_letterAt d 0 0 [.ref 740, .int i] (J, R, L, sh, N) (some (.int (fnd i l))) (J, R, L, sh, N) := by
  refine Mt.of pn_Sp (Nat.le_of_ble_eq_true rfl) ?_
  show Run mi_Sp_letterAt d 0 0 0 [(0, .ref 740), (1, .int i)] [] (J, R, L, sh, N) _
  refine r_iload_n (pc2 := 1) d_Sp_letterAt_0 rfl rfl ?_
  refine q_if_lt (tgt := 21) (A := i.toInt) (pc2 := 4) d_Sp_letterAt_1 rfl rfl (rfl) (fun c1 => ?_) (fun c1 => ?_)
  · refine r_iconst (v := (-1 : Int32)) (pc2 := 22) d_Sp_letterAt_21 rfl (by decide) ?_
    refine Run.ret (some (.int ((-1 : Int32)))) d_Sp_letterAt_22 ⟨_, rfl⟩ ?_
    exact ⟨by unfold fnd; rw [if_neg (by omega)], rfl⟩
  · refine r_iload_n (pc2 := 5) d_Sp_letterAt_4 rfl rfl ?_
    refine r_aload_n (x := some 740) (pc2 := 6) d_Sp_letterAt_5 rfl rfl ?_
    refine q_getI (x := nI l.length) (pc2 := 9) d_Sp_letterAt_6 rfl k_Sp_21 (by decide) (sh_740 hS) hz ?_
    refine q_icmp_ge (tgt := 21) (A := i.toInt) (B := ((l.length : Nat) : Int)) (pc2 := 12) d_Sp_letterAt_9 rfl rfl (rfl) (nI_toInt (by omega)) (fun c2 => ?_) (fun c2 => ?_)
    · refine r_iconst (v := (-1 : Int32)) (pc2 := 22) d_Sp_letterAt_21 rfl (by decide) ?_
      refine Run.ret (some (.int ((-1 : Int32)))) d_Sp_letterAt_22 ⟨_, rfl⟩ ?_
      exact ⟨by unfold fnd; rw [if_neg (by omega)], rfl⟩
    · refine r_aload_n (x := some 740) (pc2 := 13) d_Sp_letterAt_12 rfl rfl ?_
      refine q_getR (x := some 743) (pc2 := 16) d_Sp_letterAt_13 rfl k_Sp_18 rfl (sh_740 hS) (rf_740_2 hR) ?_
      refine r_iload_n (pc2 := 17) d_Sp_letterAt_16 rfl rfl ?_
      refine q_iaload (q := i.toInt.toNat) (x := l.getD (i.toInt.toNat) 0) (pc2 := 18) d_Sp_letterAt_17 rfl (sh_743 hS) ((by omega)) (by omega) (hw (i.toInt.toNat) (by omega)) ?_
      refine r_goto (tgt := 22) d_Sp_letterAt_18 rfl ?_
      refine Run.ret (some (.int (l.getD (i.toInt.toNat) 0))) d_Sp_letterAt_22 ⟨_, rfl⟩ ?_
      exact ⟨by unfold fnd; rw [if_pos (by omega)], rfl⟩
