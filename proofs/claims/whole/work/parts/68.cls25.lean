/-! THE CLASS: draws -/
theorem c_De_draw {d : Nat} {J : Nat → Nat → Int32} {R : Nat → Nat → Option Nat} {L : Nat → Nat → Int64} {sh : Nat → Nat × Nat} {N : Nat} (hS : ShOK sh) (hR : RfOK R) {n : Nat} (hn : 0 < n) (hn2 : n < 100) : Me mi_De_draw d 0 0 [.ref 1, .int (nI n)] (J, R, L, sh, N) (some (.int (nI (dr (lcg (J 1 5)) % n)))) (u2 J 1 5 (lcg (J 1 5)), R, L, sh, N) := by
  have hdl := dr_lt (lcg (J 1 5))
  refine Mt.of pn_De (Nat.le_of_ble_eq_true rfl) ?_
  show Run mi_De_draw d 0 0 0 [(0, .ref 1), (1, .int (nI n))] [] (J, R, L, sh, N) _
  refine r_aload_n (x := some 1) (pc2 := 1) d_De_draw_0 rfl rfl ?_
  refine r_aload_n (x := some 1) (pc2 := 2) d_De_draw_1 rfl rfl ?_
  refine q_getI (x := J 1 5) (pc2 := 5) d_De_draw_2 rfl k_De_38 (by decide) (sh_1 hS) rfl ?_
  refine r_ldc (pc2 := 7) d_De_draw_5 rfl k_De_118 ?_
  refine q_top (y := nI 1103515245) (by decide) ?_
  refine r_imul (pc2 := 8) d_De_draw_7 rfl ?_
  refine r_sipush (v := nI 12345) (pc2 := 11) d_De_draw_8 rfl (by decide) ?_
  refine r_iadd (pc2 := 12) d_De_draw_11 rfl ?_
  refine q_top (y := lcg (J 1 5)) rfl ?_
  refine q_putI (pc2 := 15) d_De_draw_12 rfl k_De_38 (Or.inl rfl) (sh_1 hS) (Or.inl rfl) (fun I1 hI1 => ?_)
  refine r_iload_n (pc2 := 16) d_De_draw_15 rfl rfl ?_
  refine q_if_le (tgt := 31) (A := ((n : Nat) : Int)) (pc2 := 19) d_De_draw_16 rfl rfl (nI_toInt (by omega)) (fun c2 => ?_) (fun c2 => ?_)
  · refine r_iconst (v := nI 0) (pc2 := 32) d_De_draw_31 rfl (by decide) ?_
    refine Run.ret (some (.int (nI 0))) d_De_draw_32 ⟨_, rfl⟩ ?_
    exfalso; omega
  · refine r_aload_n (x := some 1) (pc2 := 20) d_De_draw_19 rfl rfl ?_
    refine q_getI (x := lcg (J 1 5)) (pc2 := 23) d_De_draw_20 rfl k_De_38 (by decide) (sh_1 hS) (rd_eq hI1) ?_
    refine r_bipush (v := nI 16) (pc2 := 25) d_De_draw_23 rfl (by decide) ?_
    refine r_iushr (pc2 := 26) d_De_draw_25 rfl ?_
    refine q_top (y := nI (dr (lcg (J 1 5)))) (dr_eq _) ?_
    refine r_iload_n (pc2 := 27) d_De_draw_26 rfl rfl ?_
    refine q_iremN (pc2 := 28) d_De_draw_27 rfl (by omega) (by omega) (by omega) ?_
    refine r_goto (tgt := 32) d_De_draw_28 rfl ?_
    refine Run.ret (some (.int (nI ((dr (lcg (J 1 5))) % n)))) d_De_draw_32 ⟨_, rfl⟩ ?_
    exact ⟨rfl, by rw [hI1]⟩
