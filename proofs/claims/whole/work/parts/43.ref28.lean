/-! THE REFERENCE: show, judge -/
theorem c_M_show {d : Nat} {I : Nat → Nat → Int32} {R : Nat → Nat → Option Nat} {L : Nat → Nat → Int64} {sh : Nat → Nat × Nat} {N : Nat} (hS : ShOK sh) (hR : RfOK R) {kA fA cA gA nk nt : Nat} (hT : TRf R sh kA fA cA gA nk) (hTn : TNe kA fA cA gA) (hV : TV (I kA) (I fA) (I cA) nt) (hnt : nt ≤ nk) (hnk : nk ≤ 1000000) {nP nF : Nat} (hW : WFA (I 762) nP nF nt) {rk : Nat → Nat} (hrk : RK (I 762) nF rk) {s : Int32} {f : Int32} {r : Int32} {q : Int32} (hWS : WSH I (I kA) nt) (hd : nt + 60 ≤ d) : Mt mi_M_show d 0 0 [.ref 761, .int s, .int f, .int r, .int q] (I, R, L, sh, N) (RQT I R L sh N (o_show (I kA) (I fA) (I cA) (I 762) nF s f r q) (I_show I (I kA) (I fA) (I cA) s f r q)) := by
  obtain ⟨hPc, hP24, hFc, hF12, hWF, hWP⟩ := id hW
  obtain ⟨hn1, hn2, hn3, hn4⟩ := id hTn
  refine Mt.of pn_M (Nat.le_of_ble_eq_true rfl) ?_
  show Run mi_M_show d 0 0 0 [(0, .ref 761), (1, .int s), (2, .int f), (3, .int r), (4, .int q)] [] (I, R, L, sh, N) _
  have hkA780 : kA ≠ 780 := by omega
  refine r_iload_n (pc2 := 1) d_M_show_0 rfl rfl ?_
  refine q_calls (M2 := mi_M_isShelf) (pc2 := 4) d_M_show_1 rfl k_M_288 cm_M_isShelf cs_M_isShelf rfl rfl (Nat.le_of_ble_eq_true rfl) (c_M_isShelf (s := s) (by omega)) (d2 := d - 1) (by omega) (Nat.le_of_eq (Nat.zero_add _)) (Nat.le_of_eq (Nat.zero_add _)) ?_
  refine q_bif_ne (tgt := 14) (pc2 := 7) d_M_show_4 rfl rfl (fun c1 => ?_) (fun c1 => ?_)
  · obtain ⟨sN, hsN, gsN, rfl, esN⟩ := nat_of' (Int.le_refl 0) c1
    obtain ⟨hsosN, szsN, hszsN, hzlsN⟩ := hWS sN (by omega)
    have hztsN : (I 778 sN).toInt = (szsN : Int) := by rw [hszsN, nI_toInt (by omega)]
    refine r_iload_n (pc2 := 15) d_M_show_14 rfl rfl ?_
    refine r_iconst (v := (-1 : Int32)) (pc2 := 16) d_M_show_15 rfl (by decide) ?_
    refine q_icmp_ne (tgt := 28) (A := f.toInt) (B := (-1 : Int)) (pc2 := 19) d_M_show_16 rfl rfl (rfl) (by decide) (fun c2 => ?_) (fun c2 => ?_)
    · refine r_aload_n (x := some 761) (pc2 := 29) d_M_show_28 rfl rfl ?_
      refine r_iload_n (pc2 := 30) d_M_show_29 rfl rfl ?_
      refine r_iload_n (pc2 := 31) d_M_show_30 rfl rfl ?_
      refine q_callv (M2 := mi_M_isRule) (pc2 := 34) d_M_show_31 rfl k_M_223 cm_M_isRule cv_M_isRule (sh_761 hS) (by decide) rfl rfl rfl (Nat.le_of_ble_eq_true rfl) (c_M_isRuleW (f := f) (r := r) hS hR hT hTn hV hnt hnk hW (by omega)) (d2 := d - 1) (by omega) (Nat.le_of_eq (Nat.zero_add _)) (Nat.le_of_eq (Nat.zero_add _)) ?_
      refine q_bif_eq (tgt := 50) (pc2 := 37) d_M_show_34 rfl rfl (fun c3 => ?_) (fun c3 => ?_)
      · refine r_aload_n (x := some 761) (pc2 := 51) d_M_show_50 rfl rfl ?_
        refine r_bipush (v := (-32 : Int32)) (pc2 := 53) d_M_show_51 rfl (by decide) ?_
        refine q_callv (M2 := mi_M_refused) (pc2 := 56) d_M_show_53 rfl k_M_106 cm_M_refused cv_M_refused (sh_761 hS) (by decide) rfl rfl rfl (Nat.le_of_ble_eq_true rfl) (c_M_refused_0 (I := I) hS hR) (d2 := d - 1) (by omega) (Nat.le_of_eq (Nat.zero_add _)) (Nat.le_of_eq (Nat.zero_add _)) ?_
        obtain ⟨I4, hI4⟩ : ∃ x, x = u2 I 765 0 (I 765 0 + nI 1) := ⟨_, rfl⟩
        rw [← hI4]
        refine Run.ret (some (.int ((-32 : Int32)))) d_M_show_56 ⟨_, rfl⟩ ?_
        exact RQT.bad 0 (by (try simp only [esN, hztsN, Int.toNat_natCast] at c1 c2 c3); (unfold o_show); (try dsimp only); (try simp only [esN, hztsN, Int.toNat_natCast]); (repeat (first | rw [if_pos (by omega)] | rw [if_neg (by omega)])); (try rfl); (all_goals first | rfl | (congr 2 <;> omega) | ((repeat' split) <;> first | rfl | (exfalso; omega) | (congr 2 <;> omega) | skip))) (by decide) FrS.rf hI4
      · obtain ⟨fN, hfN, rfl, efN⟩ := nat_of c3.1
        obtain ⟨tpfN, klfN, skfN, fbfN, nRfN, nNfN, nOfN, frfN, tofN, ⟨a0fN, b0fN, cc0fN, dd0fN⟩, ⟨a1fN, b1fN, cc1fN, dd1fN⟩, ⟨a2fN, b2fN, cc2fN, dd2fN⟩, ⟨a3fN, b3fN, cc3fN, dd3fN⟩, ⟨a4fN, b4fN, cc4fN, dd4fN⟩, ⟨a5fN, b5fN, cc5fN, dd5fN⟩, ⟨a6fN, b6fN, cc6fN, dd6fN⟩, ⟨a8fN, b8fN, cc8fN, dd8fN⟩, ⟨a9fN, b9fN, cc9fN, dd9fN⟩⟩ := wfn (hWF fN hfN)
        obtain ⟨-, -, -, -, -, -, -, w7fN, -, -, wNfN, wRfN, wKfN, wOfN⟩ := hWF fN hfN
        simp only [efN, Int.toNat_natCast, b4fN] at c3
        obtain ⟨rN, hrN, rfl, erN⟩ := nat_of c3.2
        obtain ⟨rtfNrN, rafNrN, rbfNrN, rcfNrN, ⟨t0fNrN, t1fNrN, t2fNrN⟩, ⟨u0fNrN, u1fNrN, u2fNrN⟩, ⟨v0fNrN, v1fNrN, v2fNrN⟩, ⟨x0fNrN, x1fNrN, x2fNrN⟩⟩ := wrn (wRfN rN (by omega))
        refine r_iload (pc2 := 39) d_M_show_37 rfl rfl ?_
        refine r_i2l (pc2 := 40) d_M_show_39 rfl ?_
        refine r_lconst (v := (0 : Int64)) (pc2 := 41) d_M_show_40 rfl (by decide) ?_
        refine r_ldc2 (pc2 := 44) d_M_show_41 rfl k_M_221 ?_
        refine q_calls (M2 := mi_M_in) (pc2 := 47) d_M_show_44 rfl k_M_68 cm_M_in cs_M_in rfl rfl (Nat.le_of_ble_eq_true rfl) (c_M_in (A := q.toInt) (B := (0 : Int)) (C := (2 : Int)) (toInt64_toInt (rfl)) (by decide) (by decide)) (d2 := d - 1) (by omega) (Nat.le_of_eq (Nat.zero_add _)) (Nat.le_of_eq (Nat.zero_add _)) ?_
        refine q_bif_ne (tgt := 57) (pc2 := 50) d_M_show_47 rfl rfl (fun c5 => ?_) (fun c5 => ?_)
        · obtain ⟨qN, hqN, gqN, rfl, eqN⟩ := nat_of' (show (0 : Int) ≤ (0 : Int) by decide) c5
          obtain ⟨⟨k1a, k2a⟩, ⟨k3a, k4a⟩, k5a, k6a⟩ := hV rtfNrN (by omega)
          obtain ⟨kda, kxa, kya⟩ : ∃ a : Nat, I kA rtfNrN = nI a ∧ (I kA rtfNrN).toInt = (a : Int) := ⟨(I kA rtfNrN).toInt.toNat, eq_nI (by omega), by omega⟩
          obtain ⟨fta, fxa, fya⟩ : ∃ a : Nat, I fA rtfNrN = nI a ∧ (I fA rtfNrN).toInt = (a : Int) := ⟨(I fA rtfNrN).toInt.toNat, eq_nI (by omega), by omega⟩
          refine r_aload_n (x := some 761) (pc2 := 58) d_M_show_57 rfl rfl ?_
          refine r_iload_n (pc2 := 59) d_M_show_58 rfl rfl ?_
          refine r_iload_n (pc2 := 60) d_M_show_59 rfl rfl ?_
          refine q_callv (M2 := mi_M_tree) (pc2 := 63) d_M_show_60 rfl k_M_185 cm_M_tree cv_M_tree (sh_761 hS) (by decide) rfl rfl rfl (Nat.le_of_ble_eq_true rfl) (c_M_tree (I := I) (F := fN) (r := rN) hS hR (by omega) (by omega) (by omega)) (d2 := d - 1) (by omega) (Nat.le_of_eq (Nat.zero_add _)) (Nat.le_of_eq (Nat.zero_add _)) ?_
          refine q_top (y := nI rtfNrN) (t0fNrN) ?_
          refine r_istore (pc2 := 65) d_M_show_63 rfl (Nat.le_of_ble_eq_true rfl) ?_
          refine r_iload (pc2 := 67) d_M_show_65 rfl rfl ?_
          refine q_if_le (tgt := 117) (A := ((qN : Nat) : Int)) (pc2 := 70) d_M_show_67 rfl rfl (nI_toInt (by omega)) (fun c6 => ?_) (fun c6 => ?_)
          · refine r_aload_n (x := some 761) (pc2 := 118) d_M_show_117 rfl rfl ?_
            refine q_getR (x := some 780) (pc2 := 121) d_M_show_118 rfl k_M_65 rfl (sh_761 hS) (rf_761_30 hR) ?_
            refine r_iload_n (pc2 := 122) d_M_show_121 rfl rfl ?_
            refine r_iload (pc2 := 124) d_M_show_122 rfl rfl ?_
            refine q_if_ne (tgt := 132) (A := ((qN : Nat) : Int)) (pc2 := 127) d_M_show_124 rfl rfl (nI_toInt (by omega)) (fun c7 => ?_) (fun c7 => ?_)
            · refine r_iload (pc2 := 134) d_M_show_132 rfl rfl ?_
              refine r_iconst (v := nI 1) (pc2 := 135) d_M_show_134 rfl (by decide) ?_
              refine q_icmp_ne (tgt := 148) (A := ((qN : Nat) : Int)) (B := (1 : Int)) (pc2 := 138) d_M_show_135 rfl rfl (nI_toInt (by omega)) (nI_toInt (by omega)) (fun c8 => ?_) (fun c8 => ?_)
              · obtain ⟨cta, cxa, cya⟩ : ∃ a : Nat, I cA rtfNrN = nI a ∧ (I cA rtfNrN).toInt = (a : Int) := ⟨(I cA rtfNrN).toInt.toNat, eq_nI (by omega), by omega⟩
                refine r_aload_n (x := some 761) (pc2 := 149) d_M_show_148 rfl rfl ?_
                refine q_getR (x := some cA) (pc2 := 152) d_M_show_149 rfl k_M_28 rfl (sh_761 hS) hT.2.2.1 ?_
                refine r_iload (pc2 := 154) d_M_show_152 rfl rfl ?_
                refine q_iaload (q := rtfNrN) (x := nI cta) (pc2 := 155) d_M_show_154 rfl (hT.2.2.2.2.2.2.1) (nI_toInt (by omega)) (by omega) cxa ?_
                refine q_iastore (q := sN) (pc2 := 156) d_M_show_155 rfl (sh_780 hS) (nI_toInt (by omega)) (by omega) (fun I9 hI9 => ?_)
                refine r_aload_n (x := some 761) (pc2 := 157) d_M_show_156 rfl rfl ?_
                refine q_getR (x := some 777) (pc2 := 160) d_M_show_157 rfl k_M_55 rfl (sh_761 hS) (rf_761_27 hR) ?_
                refine r_iload_n (pc2 := 161) d_M_show_160 rfl rfl ?_
                refine r_bipush (v := nI 10) (pc2 := 163) d_M_show_161 rfl (by decide) ?_
                refine r_aload_n (x := some 761) (pc2 := 164) d_M_show_163 rfl rfl ?_
                refine q_getR (x := some kA) (pc2 := 167) d_M_show_164 rfl k_M_22 rfl (sh_761 hS) hT.1 ?_
                refine r_aload_n (x := some 761) (pc2 := 168) d_M_show_167 rfl rfl ?_
                refine q_getR (x := some 780) (pc2 := 171) d_M_show_168 rfl k_M_65 rfl (sh_761 hS) (rf_761_30 hR) ?_
                refine r_iload_n (pc2 := 172) d_M_show_171 rfl rfl ?_
                refine q_iaload (q := sN) (x := nI cta) (pc2 := 173) d_M_show_172 rfl (sh_780 hS) (nI_toInt (by omega)) (by omega) (rd_eq hI9) ?_
                refine q_iaload (q := cta) (x := I kA cta) (pc2 := 174) d_M_show_173 rfl (hT.2.2.2.2.1) (nI_toInt (by omega)) (by omega) (rd_ne hI9 (by exact hkA780)) ?_
                refine r_iadd (pc2 := 175) d_M_show_174 rfl ?_
                refine q_iastore (q := sN) (pc2 := 176) d_M_show_175 rfl (sh_777 hS) (nI_toInt (by omega)) (by omega) (fun I10 hI10 => ?_)
                refine r_iconst (v := nI 1) (pc2 := 177) d_M_show_176 rfl (by decide) ?_
                refine Run.ret (some (.int (nI 1))) d_M_show_177 ⟨_, rfl⟩ ?_
                first
                  | (exfalso; omega)
                  | (refine RQT.val (by (try simp only [esN, hztsN, efN, b0fN, b1fN, b2fN, b3fN, b4fN, b5fN, b6fN, b8fN, b9fN, erN, t1fNrN, u1fNrN, v1fNrN, x1fNrN, eqN, kya, fya, cya, Int.toNat_natCast] at c1 c2 c3 c5 c6 c7 c8); (unfold o_show); (try dsimp only); (try simp only [esN, hztsN, efN, b0fN, b1fN, b2fN, b3fN, b4fN, b5fN, b6fN, b8fN, b9fN, erN, t1fNrN, u1fNrN, v1fNrN, x1fNrN, eqN, kya, fya, cya, Int.toNat_natCast]); (repeat (first | rw [if_pos (by omega)] | rw [if_neg (by omega)])); (try rfl); (all_goals first | rfl | (simp only [a0fN, a1fN, a2fN, a3fN, a4fN, a5fN, a6fN, a8fN, a9fN]; done) | (congr 2 <;> omega) | ((repeat' split) <;> first | rfl | (simp only [a0fN, a1fN, a2fN, a3fN, a4fN, a5fN, a6fN, a8fN, a9fN]; done) | (exfalso; omega) | (congr 2 <;> omega) | skip))) ?_
                     have hI2 : I_show I (I kA) (I fA) (I cA) (nI sN) (nI fN) (nI rN) (nI qN) = I10 := by
                       unfold I_show
                       rw [if_neg (by omega)]
                       simp only [esN, hztsN, efN, b0fN, b1fN, b2fN, b3fN, b4fN, b5fN, b6fN, b8fN, b9fN, erN, t1fNrN, u1fNrN, v1fNrN, x1fNrN, eqN, kya, fya, cya, Int.toNat_natCast]
                       unfold shT
                       (repeat (first | rw [if_pos (by omega)] | rw [if_neg (by omega)]))
                       (try simp only [cya, Int.toNat_natCast]); rw [cxa]
                       rw [hI10, hI9]
                     rw [hI2]; exact FrS.rf)
              · refine r_aload_n (x := some 761) (pc2 := 139) d_M_show_138 rfl rfl ?_
                refine q_getR (x := some fA) (pc2 := 142) d_M_show_139 rfl k_M_25 rfl (sh_761 hS) hT.2.1 ?_
                refine r_iload (pc2 := 144) d_M_show_142 rfl rfl ?_
                refine q_iaload (q := rtfNrN) (x := nI fta) (pc2 := 145) d_M_show_144 rfl (hT.2.2.2.2.2.1) (nI_toInt (by omega)) (by omega) fxa ?_
                refine r_goto (tgt := 155) d_M_show_145 rfl ?_
                refine q_iastore (q := sN) (pc2 := 156) d_M_show_155 rfl (sh_780 hS) (nI_toInt (by omega)) (by omega) (fun I11 hI11 => ?_)
                refine r_aload_n (x := some 761) (pc2 := 157) d_M_show_156 rfl rfl ?_
                refine q_getR (x := some 777) (pc2 := 160) d_M_show_157 rfl k_M_55 rfl (sh_761 hS) (rf_761_27 hR) ?_
                refine r_iload_n (pc2 := 161) d_M_show_160 rfl rfl ?_
                refine r_bipush (v := nI 10) (pc2 := 163) d_M_show_161 rfl (by decide) ?_
                refine r_aload_n (x := some 761) (pc2 := 164) d_M_show_163 rfl rfl ?_
                refine q_getR (x := some kA) (pc2 := 167) d_M_show_164 rfl k_M_22 rfl (sh_761 hS) hT.1 ?_
                refine r_aload_n (x := some 761) (pc2 := 168) d_M_show_167 rfl rfl ?_
                refine q_getR (x := some 780) (pc2 := 171) d_M_show_168 rfl k_M_65 rfl (sh_761 hS) (rf_761_30 hR) ?_
                refine r_iload_n (pc2 := 172) d_M_show_171 rfl rfl ?_
                refine q_iaload (q := sN) (x := nI fta) (pc2 := 173) d_M_show_172 rfl (sh_780 hS) (nI_toInt (by omega)) (by omega) (rd_eq hI11) ?_
                refine q_iaload (q := fta) (x := I kA fta) (pc2 := 174) d_M_show_173 rfl (hT.2.2.2.2.1) (nI_toInt (by omega)) (by omega) (rd_ne hI11 (by exact hkA780)) ?_
                refine r_iadd (pc2 := 175) d_M_show_174 rfl ?_
                refine q_iastore (q := sN) (pc2 := 176) d_M_show_175 rfl (sh_777 hS) (nI_toInt (by omega)) (by omega) (fun I12 hI12 => ?_)
                refine r_iconst (v := nI 1) (pc2 := 177) d_M_show_176 rfl (by decide) ?_
                refine Run.ret (some (.int (nI 1))) d_M_show_177 ⟨_, rfl⟩ ?_
                first
                  | (exfalso; omega)
                  | (refine RQT.val (by (try simp only [esN, hztsN, efN, b0fN, b1fN, b2fN, b3fN, b4fN, b5fN, b6fN, b8fN, b9fN, erN, t1fNrN, u1fNrN, v1fNrN, x1fNrN, eqN, kya, fya, Int.toNat_natCast] at c1 c2 c3 c5 c6 c7 c8); (unfold o_show); (try dsimp only); (try simp only [esN, hztsN, efN, b0fN, b1fN, b2fN, b3fN, b4fN, b5fN, b6fN, b8fN, b9fN, erN, t1fNrN, u1fNrN, v1fNrN, x1fNrN, eqN, kya, fya, Int.toNat_natCast]); (repeat (first | rw [if_pos (by omega)] | rw [if_neg (by omega)])); (try rfl); (all_goals first | rfl | (simp only [a0fN, a1fN, a2fN, a3fN, a4fN, a5fN, a6fN, a8fN, a9fN]; done) | (congr 2 <;> omega) | ((repeat' split) <;> first | rfl | (simp only [a0fN, a1fN, a2fN, a3fN, a4fN, a5fN, a6fN, a8fN, a9fN]; done) | (exfalso; omega) | (congr 2 <;> omega) | skip))) ?_
                     have hI2 : I_show I (I kA) (I fA) (I cA) (nI sN) (nI fN) (nI rN) (nI qN) = I12 := by
                       unfold I_show
                       rw [if_neg (by omega)]
                       simp only [esN, hztsN, efN, b0fN, b1fN, b2fN, b3fN, b4fN, b5fN, b6fN, b8fN, b9fN, erN, t1fNrN, u1fNrN, v1fNrN, x1fNrN, eqN, kya, fya, Int.toNat_natCast]
                       unfold shT
                       (repeat (first | rw [if_pos (by omega)] | rw [if_neg (by omega)]))
                       (try simp only [fya, Int.toNat_natCast]); rw [fxa]
                       rw [hI12, hI11]
                     rw [hI2]; exact FrS.rf)
            · refine r_iload (pc2 := 129) d_M_show_127 rfl rfl ?_
              refine r_goto (tgt := 155) d_M_show_129 rfl ?_
              refine q_iastore (q := sN) (pc2 := 156) d_M_show_155 rfl (sh_780 hS) (nI_toInt (by omega)) (by omega) (fun I13 hI13 => ?_)
              refine r_aload_n (x := some 761) (pc2 := 157) d_M_show_156 rfl rfl ?_
              refine q_getR (x := some 777) (pc2 := 160) d_M_show_157 rfl k_M_55 rfl (sh_761 hS) (rf_761_27 hR) ?_
              refine r_iload_n (pc2 := 161) d_M_show_160 rfl rfl ?_
              refine r_bipush (v := nI 10) (pc2 := 163) d_M_show_161 rfl (by decide) ?_
              refine r_aload_n (x := some 761) (pc2 := 164) d_M_show_163 rfl rfl ?_
              refine q_getR (x := some kA) (pc2 := 167) d_M_show_164 rfl k_M_22 rfl (sh_761 hS) hT.1 ?_
              refine r_aload_n (x := some 761) (pc2 := 168) d_M_show_167 rfl rfl ?_
              refine q_getR (x := some 780) (pc2 := 171) d_M_show_168 rfl k_M_65 rfl (sh_761 hS) (rf_761_30 hR) ?_
              refine r_iload_n (pc2 := 172) d_M_show_171 rfl rfl ?_
              refine q_iaload (q := sN) (x := nI rtfNrN) (pc2 := 173) d_M_show_172 rfl (sh_780 hS) (nI_toInt (by omega)) (by omega) (rd_eq hI13) ?_
              refine q_iaload (q := rtfNrN) (x := I kA rtfNrN) (pc2 := 174) d_M_show_173 rfl (hT.2.2.2.2.1) (nI_toInt (by omega)) (by omega) (rd_ne hI13 (by exact hkA780)) ?_
              refine r_iadd (pc2 := 175) d_M_show_174 rfl ?_
              refine q_iastore (q := sN) (pc2 := 176) d_M_show_175 rfl (sh_777 hS) (nI_toInt (by omega)) (by omega) (fun I14 hI14 => ?_)
              refine r_iconst (v := nI 1) (pc2 := 177) d_M_show_176 rfl (by decide) ?_
              refine Run.ret (some (.int (nI 1))) d_M_show_177 ⟨_, rfl⟩ ?_
              first
                | (exfalso; omega)
                | (refine RQT.val (by (try simp only [esN, hztsN, efN, b0fN, b1fN, b2fN, b3fN, b4fN, b5fN, b6fN, b8fN, b9fN, erN, t1fNrN, u1fNrN, v1fNrN, x1fNrN, eqN, kya, fya, Int.toNat_natCast] at c1 c2 c3 c5 c6 c7); (unfold o_show); (try dsimp only); (try simp only [esN, hztsN, efN, b0fN, b1fN, b2fN, b3fN, b4fN, b5fN, b6fN, b8fN, b9fN, erN, t1fNrN, u1fNrN, v1fNrN, x1fNrN, eqN, kya, fya, Int.toNat_natCast]); (repeat (first | rw [if_pos (by omega)] | rw [if_neg (by omega)])); (try rfl); (all_goals first | rfl | (simp only [a0fN, a1fN, a2fN, a3fN, a4fN, a5fN, a6fN, a8fN, a9fN]; done) | (congr 2 <;> omega) | ((repeat' split) <;> first | rfl | (simp only [a0fN, a1fN, a2fN, a3fN, a4fN, a5fN, a6fN, a8fN, a9fN]; done) | (exfalso; omega) | (congr 2 <;> omega) | skip))) ?_
                   have hI2 : I_show I (I kA) (I fA) (I cA) (nI sN) (nI fN) (nI rN) (nI qN) = I14 := by
                     unfold I_show
                     rw [if_neg (by omega)]
                     simp only [esN, hztsN, efN, b0fN, b1fN, b2fN, b3fN, b4fN, b5fN, b6fN, b8fN, b9fN, erN, t1fNrN, u1fNrN, v1fNrN, x1fNrN, eqN, kya, fya, Int.toNat_natCast]
                     unfold shT
                     (repeat (first | rw [if_pos (by omega)] | rw [if_neg (by omega)]))
                     rw [nI_toInt (by omega), Int.toNat_natCast]
                     rw [hI14, hI13]
                   rw [hI2]; exact FrS.rf)
          · refine r_aload_n (x := some 761) (pc2 := 71) d_M_show_70 rfl rfl ?_
            refine q_getR (x := some kA) (pc2 := 74) d_M_show_71 rfl k_M_22 rfl (sh_761 hS) hT.1 ?_
            refine r_iload (pc2 := 76) d_M_show_74 rfl rfl ?_
            refine q_iaload (q := rtfNrN) (x := nI kda) (pc2 := 77) d_M_show_76 rfl (hT.2.2.2.2.1) (nI_toInt (by omega)) (by omega) kxa ?_
            refine r_iconst (v := nI 3) (pc2 := 78) d_M_show_77 rfl (by decide) ?_
            refine q_icmp_eq (tgt := 93) (A := ((kda : Nat) : Int)) (B := (3 : Int)) (pc2 := 81) d_M_show_78 rfl rfl (nI_toInt (by omega)) (nI_toInt (by omega)) (fun c15 => ?_) (fun c15 => ?_)
            · refine r_aload_n (x := some 761) (pc2 := 94) d_M_show_93 rfl rfl ?_
              refine q_getR (x := some kA) (pc2 := 97) d_M_show_94 rfl k_M_22 rfl (sh_761 hS) hT.1 ?_
              refine r_iload (pc2 := 99) d_M_show_97 rfl rfl ?_
              refine q_iaload (q := rtfNrN) (x := nI kda) (pc2 := 100) d_M_show_99 rfl (hT.2.2.2.2.1) (nI_toInt (by omega)) (by omega) kxa ?_
              refine r_iconst (v := nI 3) (pc2 := 101) d_M_show_100 rfl (by decide) ?_
              refine q_icmp_ne (tgt := 117) (A := ((kda : Nat) : Int)) (B := (3 : Int)) (pc2 := 104) d_M_show_101 rfl rfl (nI_toInt (by omega)) (nI_toInt (by omega)) (fun c16 => ?_) (fun c16 => ?_)
              · refine r_aload_n (x := some 761) (pc2 := 118) d_M_show_117 rfl rfl ?_
                refine q_getR (x := some 780) (pc2 := 121) d_M_show_118 rfl k_M_65 rfl (sh_761 hS) (rf_761_30 hR) ?_
                refine r_iload_n (pc2 := 122) d_M_show_121 rfl rfl ?_
                refine r_iload (pc2 := 124) d_M_show_122 rfl rfl ?_
                refine q_if_ne (tgt := 132) (A := ((qN : Nat) : Int)) (pc2 := 127) d_M_show_124 rfl rfl (nI_toInt (by omega)) (fun c17 => ?_) (fun c17 => ?_)
                · refine r_iload (pc2 := 134) d_M_show_132 rfl rfl ?_
                  refine r_iconst (v := nI 1) (pc2 := 135) d_M_show_134 rfl (by decide) ?_
                  refine q_icmp_ne (tgt := 148) (A := ((qN : Nat) : Int)) (B := (1 : Int)) (pc2 := 138) d_M_show_135 rfl rfl (nI_toInt (by omega)) (nI_toInt (by omega)) (fun c18 => ?_) (fun c18 => ?_)
                  · obtain ⟨cta, cxa, cya⟩ : ∃ a : Nat, I cA rtfNrN = nI a ∧ (I cA rtfNrN).toInt = (a : Int) := ⟨(I cA rtfNrN).toInt.toNat, eq_nI (by omega), by omega⟩
                    refine r_aload_n (x := some 761) (pc2 := 149) d_M_show_148 rfl rfl ?_
                    refine q_getR (x := some cA) (pc2 := 152) d_M_show_149 rfl k_M_28 rfl (sh_761 hS) hT.2.2.1 ?_
                    refine r_iload (pc2 := 154) d_M_show_152 rfl rfl ?_
                    refine q_iaload (q := rtfNrN) (x := nI cta) (pc2 := 155) d_M_show_154 rfl (hT.2.2.2.2.2.2.1) (nI_toInt (by omega)) (by omega) cxa ?_
                    refine q_iastore (q := sN) (pc2 := 156) d_M_show_155 rfl (sh_780 hS) (nI_toInt (by omega)) (by omega) (fun I19 hI19 => ?_)
                    refine r_aload_n (x := some 761) (pc2 := 157) d_M_show_156 rfl rfl ?_
                    refine q_getR (x := some 777) (pc2 := 160) d_M_show_157 rfl k_M_55 rfl (sh_761 hS) (rf_761_27 hR) ?_
                    refine r_iload_n (pc2 := 161) d_M_show_160 rfl rfl ?_
                    refine r_bipush (v := nI 10) (pc2 := 163) d_M_show_161 rfl (by decide) ?_
                    refine r_aload_n (x := some 761) (pc2 := 164) d_M_show_163 rfl rfl ?_
                    refine q_getR (x := some kA) (pc2 := 167) d_M_show_164 rfl k_M_22 rfl (sh_761 hS) hT.1 ?_
                    refine r_aload_n (x := some 761) (pc2 := 168) d_M_show_167 rfl rfl ?_
                    refine q_getR (x := some 780) (pc2 := 171) d_M_show_168 rfl k_M_65 rfl (sh_761 hS) (rf_761_30 hR) ?_
                    refine r_iload_n (pc2 := 172) d_M_show_171 rfl rfl ?_
                    refine q_iaload (q := sN) (x := nI cta) (pc2 := 173) d_M_show_172 rfl (sh_780 hS) (nI_toInt (by omega)) (by omega) (rd_eq hI19) ?_
                    refine q_iaload (q := cta) (x := I kA cta) (pc2 := 174) d_M_show_173 rfl (hT.2.2.2.2.1) (nI_toInt (by omega)) (by omega) (rd_ne hI19 (by exact hkA780)) ?_
                    refine r_iadd (pc2 := 175) d_M_show_174 rfl ?_
                    refine q_iastore (q := sN) (pc2 := 176) d_M_show_175 rfl (sh_777 hS) (nI_toInt (by omega)) (by omega) (fun I20 hI20 => ?_)
                    refine r_iconst (v := nI 1) (pc2 := 177) d_M_show_176 rfl (by decide) ?_
                    refine Run.ret (some (.int (nI 1))) d_M_show_177 ⟨_, rfl⟩ ?_
                    first
                      | (exfalso; omega)
                      | (refine RQT.val (by (try simp only [esN, hztsN, efN, b0fN, b1fN, b2fN, b3fN, b4fN, b5fN, b6fN, b8fN, b9fN, erN, t1fNrN, u1fNrN, v1fNrN, x1fNrN, eqN, kya, fya, cya, Int.toNat_natCast] at c1 c2 c3 c5 c6 c15 c16 c17 c18); (unfold o_show); (try dsimp only); (try simp only [esN, hztsN, efN, b0fN, b1fN, b2fN, b3fN, b4fN, b5fN, b6fN, b8fN, b9fN, erN, t1fNrN, u1fNrN, v1fNrN, x1fNrN, eqN, kya, fya, cya, Int.toNat_natCast]); (repeat (first | rw [if_pos (by omega)] | rw [if_neg (by omega)])); (try rfl); (all_goals first | rfl | (simp only [a0fN, a1fN, a2fN, a3fN, a4fN, a5fN, a6fN, a8fN, a9fN]; done) | (congr 2 <;> omega) | ((repeat' split) <;> first | rfl | (simp only [a0fN, a1fN, a2fN, a3fN, a4fN, a5fN, a6fN, a8fN, a9fN]; done) | (exfalso; omega) | (congr 2 <;> omega) | skip))) ?_
                         have hI2 : I_show I (I kA) (I fA) (I cA) (nI sN) (nI fN) (nI rN) (nI qN) = I20 := by
                           unfold I_show
                           rw [if_neg (by omega)]
                           simp only [esN, hztsN, efN, b0fN, b1fN, b2fN, b3fN, b4fN, b5fN, b6fN, b8fN, b9fN, erN, t1fNrN, u1fNrN, v1fNrN, x1fNrN, eqN, kya, fya, cya, Int.toNat_natCast]
                           unfold shT
                           (repeat (first | rw [if_pos (by omega)] | rw [if_neg (by omega)]))
                           (try simp only [cya, Int.toNat_natCast]); rw [cxa]
                           rw [hI20, hI19]
                         rw [hI2]; exact FrS.rf)
                  · refine r_aload_n (x := some 761) (pc2 := 139) d_M_show_138 rfl rfl ?_
                    refine q_getR (x := some fA) (pc2 := 142) d_M_show_139 rfl k_M_25 rfl (sh_761 hS) hT.2.1 ?_
                    refine r_iload (pc2 := 144) d_M_show_142 rfl rfl ?_
                    refine q_iaload (q := rtfNrN) (x := nI fta) (pc2 := 145) d_M_show_144 rfl (hT.2.2.2.2.2.1) (nI_toInt (by omega)) (by omega) fxa ?_
                    refine r_goto (tgt := 155) d_M_show_145 rfl ?_
                    refine q_iastore (q := sN) (pc2 := 156) d_M_show_155 rfl (sh_780 hS) (nI_toInt (by omega)) (by omega) (fun I21 hI21 => ?_)
                    refine r_aload_n (x := some 761) (pc2 := 157) d_M_show_156 rfl rfl ?_
                    refine q_getR (x := some 777) (pc2 := 160) d_M_show_157 rfl k_M_55 rfl (sh_761 hS) (rf_761_27 hR) ?_
                    refine r_iload_n (pc2 := 161) d_M_show_160 rfl rfl ?_
                    refine r_bipush (v := nI 10) (pc2 := 163) d_M_show_161 rfl (by decide) ?_
                    refine r_aload_n (x := some 761) (pc2 := 164) d_M_show_163 rfl rfl ?_
                    refine q_getR (x := some kA) (pc2 := 167) d_M_show_164 rfl k_M_22 rfl (sh_761 hS) hT.1 ?_
                    refine r_aload_n (x := some 761) (pc2 := 168) d_M_show_167 rfl rfl ?_
                    refine q_getR (x := some 780) (pc2 := 171) d_M_show_168 rfl k_M_65 rfl (sh_761 hS) (rf_761_30 hR) ?_
                    refine r_iload_n (pc2 := 172) d_M_show_171 rfl rfl ?_
                    refine q_iaload (q := sN) (x := nI fta) (pc2 := 173) d_M_show_172 rfl (sh_780 hS) (nI_toInt (by omega)) (by omega) (rd_eq hI21) ?_
                    refine q_iaload (q := fta) (x := I kA fta) (pc2 := 174) d_M_show_173 rfl (hT.2.2.2.2.1) (nI_toInt (by omega)) (by omega) (rd_ne hI21 (by exact hkA780)) ?_
                    refine r_iadd (pc2 := 175) d_M_show_174 rfl ?_
                    refine q_iastore (q := sN) (pc2 := 176) d_M_show_175 rfl (sh_777 hS) (nI_toInt (by omega)) (by omega) (fun I22 hI22 => ?_)
                    refine r_iconst (v := nI 1) (pc2 := 177) d_M_show_176 rfl (by decide) ?_
                    refine Run.ret (some (.int (nI 1))) d_M_show_177 ⟨_, rfl⟩ ?_
                    first
                      | (exfalso; omega)
                      | (refine RQT.val (by (try simp only [esN, hztsN, efN, b0fN, b1fN, b2fN, b3fN, b4fN, b5fN, b6fN, b8fN, b9fN, erN, t1fNrN, u1fNrN, v1fNrN, x1fNrN, eqN, kya, fya, Int.toNat_natCast] at c1 c2 c3 c5 c6 c15 c16 c17 c18); (unfold o_show); (try dsimp only); (try simp only [esN, hztsN, efN, b0fN, b1fN, b2fN, b3fN, b4fN, b5fN, b6fN, b8fN, b9fN, erN, t1fNrN, u1fNrN, v1fNrN, x1fNrN, eqN, kya, fya, Int.toNat_natCast]); (repeat (first | rw [if_pos (by omega)] | rw [if_neg (by omega)])); (try rfl); (all_goals first | rfl | (simp only [a0fN, a1fN, a2fN, a3fN, a4fN, a5fN, a6fN, a8fN, a9fN]; done) | (congr 2 <;> omega) | ((repeat' split) <;> first | rfl | (simp only [a0fN, a1fN, a2fN, a3fN, a4fN, a5fN, a6fN, a8fN, a9fN]; done) | (exfalso; omega) | (congr 2 <;> omega) | skip))) ?_
                         have hI2 : I_show I (I kA) (I fA) (I cA) (nI sN) (nI fN) (nI rN) (nI qN) = I22 := by
                           unfold I_show
                           rw [if_neg (by omega)]
                           simp only [esN, hztsN, efN, b0fN, b1fN, b2fN, b3fN, b4fN, b5fN, b6fN, b8fN, b9fN, erN, t1fNrN, u1fNrN, v1fNrN, x1fNrN, eqN, kya, fya, Int.toNat_natCast]
                           unfold shT
                           (repeat (first | rw [if_pos (by omega)] | rw [if_neg (by omega)]))
                           (try simp only [fya, Int.toNat_natCast]); rw [fxa]
                           rw [hI22, hI21]
                         rw [hI2]; exact FrS.rf)
                · refine r_iload (pc2 := 129) d_M_show_127 rfl rfl ?_
                  refine r_goto (tgt := 155) d_M_show_129 rfl ?_
                  refine q_iastore (q := sN) (pc2 := 156) d_M_show_155 rfl (sh_780 hS) (nI_toInt (by omega)) (by omega) (fun I23 hI23 => ?_)
                  refine r_aload_n (x := some 761) (pc2 := 157) d_M_show_156 rfl rfl ?_
                  refine q_getR (x := some 777) (pc2 := 160) d_M_show_157 rfl k_M_55 rfl (sh_761 hS) (rf_761_27 hR) ?_
                  refine r_iload_n (pc2 := 161) d_M_show_160 rfl rfl ?_
                  refine r_bipush (v := nI 10) (pc2 := 163) d_M_show_161 rfl (by decide) ?_
                  refine r_aload_n (x := some 761) (pc2 := 164) d_M_show_163 rfl rfl ?_
                  refine q_getR (x := some kA) (pc2 := 167) d_M_show_164 rfl k_M_22 rfl (sh_761 hS) hT.1 ?_
                  refine r_aload_n (x := some 761) (pc2 := 168) d_M_show_167 rfl rfl ?_
                  refine q_getR (x := some 780) (pc2 := 171) d_M_show_168 rfl k_M_65 rfl (sh_761 hS) (rf_761_30 hR) ?_
                  refine r_iload_n (pc2 := 172) d_M_show_171 rfl rfl ?_
                  refine q_iaload (q := sN) (x := nI rtfNrN) (pc2 := 173) d_M_show_172 rfl (sh_780 hS) (nI_toInt (by omega)) (by omega) (rd_eq hI23) ?_
                  refine q_iaload (q := rtfNrN) (x := I kA rtfNrN) (pc2 := 174) d_M_show_173 rfl (hT.2.2.2.2.1) (nI_toInt (by omega)) (by omega) (rd_ne hI23 (by exact hkA780)) ?_
                  refine r_iadd (pc2 := 175) d_M_show_174 rfl ?_
                  refine q_iastore (q := sN) (pc2 := 176) d_M_show_175 rfl (sh_777 hS) (nI_toInt (by omega)) (by omega) (fun I24 hI24 => ?_)
                  refine r_iconst (v := nI 1) (pc2 := 177) d_M_show_176 rfl (by decide) ?_
                  refine Run.ret (some (.int (nI 1))) d_M_show_177 ⟨_, rfl⟩ ?_
                  first
                    | (exfalso; omega)
                    | (refine RQT.val (by (try simp only [esN, hztsN, efN, b0fN, b1fN, b2fN, b3fN, b4fN, b5fN, b6fN, b8fN, b9fN, erN, t1fNrN, u1fNrN, v1fNrN, x1fNrN, eqN, kya, fya, Int.toNat_natCast] at c1 c2 c3 c5 c6 c15 c16 c17); (unfold o_show); (try dsimp only); (try simp only [esN, hztsN, efN, b0fN, b1fN, b2fN, b3fN, b4fN, b5fN, b6fN, b8fN, b9fN, erN, t1fNrN, u1fNrN, v1fNrN, x1fNrN, eqN, kya, fya, Int.toNat_natCast]); (repeat (first | rw [if_pos (by omega)] | rw [if_neg (by omega)])); (try rfl); (all_goals first | rfl | (simp only [a0fN, a1fN, a2fN, a3fN, a4fN, a5fN, a6fN, a8fN, a9fN]; done) | (congr 2 <;> omega) | ((repeat' split) <;> first | rfl | (simp only [a0fN, a1fN, a2fN, a3fN, a4fN, a5fN, a6fN, a8fN, a9fN]; done) | (exfalso; omega) | (congr 2 <;> omega) | skip))) ?_
                       have hI2 : I_show I (I kA) (I fA) (I cA) (nI sN) (nI fN) (nI rN) (nI qN) = I24 := by
                         unfold I_show
                         rw [if_neg (by omega)]
                         simp only [esN, hztsN, efN, b0fN, b1fN, b2fN, b3fN, b4fN, b5fN, b6fN, b8fN, b9fN, erN, t1fNrN, u1fNrN, v1fNrN, x1fNrN, eqN, kya, fya, Int.toNat_natCast]
                         unfold shT
                         (repeat (first | rw [if_pos (by omega)] | rw [if_neg (by omega)]))
                         rw [nI_toInt (by omega), Int.toNat_natCast]
                         rw [hI24, hI23]
                       rw [hI2]; exact FrS.rf)
              · refine r_iload (pc2 := 106) d_M_show_104 rfl rfl ?_
                refine r_iconst (v := nI 2) (pc2 := 107) d_M_show_106 rfl (by decide) ?_
                refine q_icmp_ne (tgt := 117) (A := ((qN : Nat) : Int)) (B := (2 : Int)) (pc2 := 110) d_M_show_107 rfl rfl (nI_toInt (by omega)) (nI_toInt (by omega)) (fun c25 => ?_) (fun c25 => ?_)
                · refine r_aload_n (x := some 761) (pc2 := 118) d_M_show_117 rfl rfl ?_
                  refine q_getR (x := some 780) (pc2 := 121) d_M_show_118 rfl k_M_65 rfl (sh_761 hS) (rf_761_30 hR) ?_
                  refine r_iload_n (pc2 := 122) d_M_show_121 rfl rfl ?_
                  refine r_iload (pc2 := 124) d_M_show_122 rfl rfl ?_
                  refine q_if_ne (tgt := 132) (A := ((qN : Nat) : Int)) (pc2 := 127) d_M_show_124 rfl rfl (nI_toInt (by omega)) (fun c26 => ?_) (fun c26 => ?_)
                  · refine r_iload (pc2 := 134) d_M_show_132 rfl rfl ?_
                    refine r_iconst (v := nI 1) (pc2 := 135) d_M_show_134 rfl (by decide) ?_
                    refine q_icmp_ne (tgt := 148) (A := ((qN : Nat) : Int)) (B := (1 : Int)) (pc2 := 138) d_M_show_135 rfl rfl (nI_toInt (by omega)) (nI_toInt (by omega)) (fun c27 => ?_) (fun c27 => ?_)
                    · obtain ⟨cta, cxa, cya⟩ : ∃ a : Nat, I cA rtfNrN = nI a ∧ (I cA rtfNrN).toInt = (a : Int) := ⟨(I cA rtfNrN).toInt.toNat, eq_nI (by omega), by omega⟩
                      refine r_aload_n (x := some 761) (pc2 := 149) d_M_show_148 rfl rfl ?_
                      refine q_getR (x := some cA) (pc2 := 152) d_M_show_149 rfl k_M_28 rfl (sh_761 hS) hT.2.2.1 ?_
                      refine r_iload (pc2 := 154) d_M_show_152 rfl rfl ?_
                      refine q_iaload (q := rtfNrN) (x := nI cta) (pc2 := 155) d_M_show_154 rfl (hT.2.2.2.2.2.2.1) (nI_toInt (by omega)) (by omega) cxa ?_
                      refine q_iastore (q := sN) (pc2 := 156) d_M_show_155 rfl (sh_780 hS) (nI_toInt (by omega)) (by omega) (fun I28 hI28 => ?_)
                      refine r_aload_n (x := some 761) (pc2 := 157) d_M_show_156 rfl rfl ?_
                      refine q_getR (x := some 777) (pc2 := 160) d_M_show_157 rfl k_M_55 rfl (sh_761 hS) (rf_761_27 hR) ?_
                      refine r_iload_n (pc2 := 161) d_M_show_160 rfl rfl ?_
                      refine r_bipush (v := nI 10) (pc2 := 163) d_M_show_161 rfl (by decide) ?_
                      refine r_aload_n (x := some 761) (pc2 := 164) d_M_show_163 rfl rfl ?_
                      refine q_getR (x := some kA) (pc2 := 167) d_M_show_164 rfl k_M_22 rfl (sh_761 hS) hT.1 ?_
                      refine r_aload_n (x := some 761) (pc2 := 168) d_M_show_167 rfl rfl ?_
                      refine q_getR (x := some 780) (pc2 := 171) d_M_show_168 rfl k_M_65 rfl (sh_761 hS) (rf_761_30 hR) ?_
                      refine r_iload_n (pc2 := 172) d_M_show_171 rfl rfl ?_
                      refine q_iaload (q := sN) (x := nI cta) (pc2 := 173) d_M_show_172 rfl (sh_780 hS) (nI_toInt (by omega)) (by omega) (rd_eq hI28) ?_
                      refine q_iaload (q := cta) (x := I kA cta) (pc2 := 174) d_M_show_173 rfl (hT.2.2.2.2.1) (nI_toInt (by omega)) (by omega) (rd_ne hI28 (by exact hkA780)) ?_
                      refine r_iadd (pc2 := 175) d_M_show_174 rfl ?_
                      refine q_iastore (q := sN) (pc2 := 176) d_M_show_175 rfl (sh_777 hS) (nI_toInt (by omega)) (by omega) (fun I29 hI29 => ?_)
                      refine r_iconst (v := nI 1) (pc2 := 177) d_M_show_176 rfl (by decide) ?_
                      refine Run.ret (some (.int (nI 1))) d_M_show_177 ⟨_, rfl⟩ ?_
                      first
                        | (exfalso; omega)
                        | (refine RQT.val (by (try simp only [esN, hztsN, efN, b0fN, b1fN, b2fN, b3fN, b4fN, b5fN, b6fN, b8fN, b9fN, erN, t1fNrN, u1fNrN, v1fNrN, x1fNrN, eqN, kya, fya, cya, Int.toNat_natCast] at c1 c2 c3 c5 c6 c15 c16 c25 c26 c27); (unfold o_show); (try dsimp only); (try simp only [esN, hztsN, efN, b0fN, b1fN, b2fN, b3fN, b4fN, b5fN, b6fN, b8fN, b9fN, erN, t1fNrN, u1fNrN, v1fNrN, x1fNrN, eqN, kya, fya, cya, Int.toNat_natCast]); (repeat (first | rw [if_pos (by omega)] | rw [if_neg (by omega)])); (try rfl); (all_goals first | rfl | (simp only [a0fN, a1fN, a2fN, a3fN, a4fN, a5fN, a6fN, a8fN, a9fN]; done) | (congr 2 <;> omega) | ((repeat' split) <;> first | rfl | (simp only [a0fN, a1fN, a2fN, a3fN, a4fN, a5fN, a6fN, a8fN, a9fN]; done) | (exfalso; omega) | (congr 2 <;> omega) | skip))) ?_
                           have hI2 : I_show I (I kA) (I fA) (I cA) (nI sN) (nI fN) (nI rN) (nI qN) = I29 := by
                             unfold I_show
                             rw [if_neg (by omega)]
                             simp only [esN, hztsN, efN, b0fN, b1fN, b2fN, b3fN, b4fN, b5fN, b6fN, b8fN, b9fN, erN, t1fNrN, u1fNrN, v1fNrN, x1fNrN, eqN, kya, fya, cya, Int.toNat_natCast]
                             unfold shT
                             (repeat (first | rw [if_pos (by omega)] | rw [if_neg (by omega)]))
                             (try simp only [cya, Int.toNat_natCast]); rw [cxa]
                             rw [hI29, hI28]
                           rw [hI2]; exact FrS.rf)
                    · refine r_aload_n (x := some 761) (pc2 := 139) d_M_show_138 rfl rfl ?_
                      refine q_getR (x := some fA) (pc2 := 142) d_M_show_139 rfl k_M_25 rfl (sh_761 hS) hT.2.1 ?_
                      refine r_iload (pc2 := 144) d_M_show_142 rfl rfl ?_
                      refine q_iaload (q := rtfNrN) (x := nI fta) (pc2 := 145) d_M_show_144 rfl (hT.2.2.2.2.2.1) (nI_toInt (by omega)) (by omega) fxa ?_
                      refine r_goto (tgt := 155) d_M_show_145 rfl ?_
                      refine q_iastore (q := sN) (pc2 := 156) d_M_show_155 rfl (sh_780 hS) (nI_toInt (by omega)) (by omega) (fun I30 hI30 => ?_)
                      refine r_aload_n (x := some 761) (pc2 := 157) d_M_show_156 rfl rfl ?_
                      refine q_getR (x := some 777) (pc2 := 160) d_M_show_157 rfl k_M_55 rfl (sh_761 hS) (rf_761_27 hR) ?_
                      refine r_iload_n (pc2 := 161) d_M_show_160 rfl rfl ?_
                      refine r_bipush (v := nI 10) (pc2 := 163) d_M_show_161 rfl (by decide) ?_
                      refine r_aload_n (x := some 761) (pc2 := 164) d_M_show_163 rfl rfl ?_
                      refine q_getR (x := some kA) (pc2 := 167) d_M_show_164 rfl k_M_22 rfl (sh_761 hS) hT.1 ?_
                      refine r_aload_n (x := some 761) (pc2 := 168) d_M_show_167 rfl rfl ?_
                      refine q_getR (x := some 780) (pc2 := 171) d_M_show_168 rfl k_M_65 rfl (sh_761 hS) (rf_761_30 hR) ?_
                      refine r_iload_n (pc2 := 172) d_M_show_171 rfl rfl ?_
                      refine q_iaload (q := sN) (x := nI fta) (pc2 := 173) d_M_show_172 rfl (sh_780 hS) (nI_toInt (by omega)) (by omega) (rd_eq hI30) ?_
                      refine q_iaload (q := fta) (x := I kA fta) (pc2 := 174) d_M_show_173 rfl (hT.2.2.2.2.1) (nI_toInt (by omega)) (by omega) (rd_ne hI30 (by exact hkA780)) ?_
                      refine r_iadd (pc2 := 175) d_M_show_174 rfl ?_
                      refine q_iastore (q := sN) (pc2 := 176) d_M_show_175 rfl (sh_777 hS) (nI_toInt (by omega)) (by omega) (fun I31 hI31 => ?_)
                      refine r_iconst (v := nI 1) (pc2 := 177) d_M_show_176 rfl (by decide) ?_
                      refine Run.ret (some (.int (nI 1))) d_M_show_177 ⟨_, rfl⟩ ?_
                      first
                        | (exfalso; omega)
                        | (refine RQT.val (by (try simp only [esN, hztsN, efN, b0fN, b1fN, b2fN, b3fN, b4fN, b5fN, b6fN, b8fN, b9fN, erN, t1fNrN, u1fNrN, v1fNrN, x1fNrN, eqN, kya, fya, Int.toNat_natCast] at c1 c2 c3 c5 c6 c15 c16 c25 c26 c27); (unfold o_show); (try dsimp only); (try simp only [esN, hztsN, efN, b0fN, b1fN, b2fN, b3fN, b4fN, b5fN, b6fN, b8fN, b9fN, erN, t1fNrN, u1fNrN, v1fNrN, x1fNrN, eqN, kya, fya, Int.toNat_natCast]); (repeat (first | rw [if_pos (by omega)] | rw [if_neg (by omega)])); (try rfl); (all_goals first | rfl | (simp only [a0fN, a1fN, a2fN, a3fN, a4fN, a5fN, a6fN, a8fN, a9fN]; done) | (congr 2 <;> omega) | ((repeat' split) <;> first | rfl | (simp only [a0fN, a1fN, a2fN, a3fN, a4fN, a5fN, a6fN, a8fN, a9fN]; done) | (exfalso; omega) | (congr 2 <;> omega) | skip))) ?_
                           have hI2 : I_show I (I kA) (I fA) (I cA) (nI sN) (nI fN) (nI rN) (nI qN) = I31 := by
                             unfold I_show
                             rw [if_neg (by omega)]
                             simp only [esN, hztsN, efN, b0fN, b1fN, b2fN, b3fN, b4fN, b5fN, b6fN, b8fN, b9fN, erN, t1fNrN, u1fNrN, v1fNrN, x1fNrN, eqN, kya, fya, Int.toNat_natCast]
                             unfold shT
                             (repeat (first | rw [if_pos (by omega)] | rw [if_neg (by omega)]))
                             (try simp only [fya, Int.toNat_natCast]); rw [fxa]
                             rw [hI31, hI30]
                           rw [hI2]; exact FrS.rf)
                  · refine r_iload (pc2 := 129) d_M_show_127 rfl rfl ?_
                    refine r_goto (tgt := 155) d_M_show_129 rfl ?_
                    refine q_iastore (q := sN) (pc2 := 156) d_M_show_155 rfl (sh_780 hS) (nI_toInt (by omega)) (by omega) (fun I32 hI32 => ?_)
                    refine r_aload_n (x := some 761) (pc2 := 157) d_M_show_156 rfl rfl ?_
                    refine q_getR (x := some 777) (pc2 := 160) d_M_show_157 rfl k_M_55 rfl (sh_761 hS) (rf_761_27 hR) ?_
                    refine r_iload_n (pc2 := 161) d_M_show_160 rfl rfl ?_
                    refine r_bipush (v := nI 10) (pc2 := 163) d_M_show_161 rfl (by decide) ?_
                    refine r_aload_n (x := some 761) (pc2 := 164) d_M_show_163 rfl rfl ?_
                    refine q_getR (x := some kA) (pc2 := 167) d_M_show_164 rfl k_M_22 rfl (sh_761 hS) hT.1 ?_
                    refine r_aload_n (x := some 761) (pc2 := 168) d_M_show_167 rfl rfl ?_
                    refine q_getR (x := some 780) (pc2 := 171) d_M_show_168 rfl k_M_65 rfl (sh_761 hS) (rf_761_30 hR) ?_
                    refine r_iload_n (pc2 := 172) d_M_show_171 rfl rfl ?_
                    refine q_iaload (q := sN) (x := nI rtfNrN) (pc2 := 173) d_M_show_172 rfl (sh_780 hS) (nI_toInt (by omega)) (by omega) (rd_eq hI32) ?_
                    refine q_iaload (q := rtfNrN) (x := I kA rtfNrN) (pc2 := 174) d_M_show_173 rfl (hT.2.2.2.2.1) (nI_toInt (by omega)) (by omega) (rd_ne hI32 (by exact hkA780)) ?_
                    refine r_iadd (pc2 := 175) d_M_show_174 rfl ?_
                    refine q_iastore (q := sN) (pc2 := 176) d_M_show_175 rfl (sh_777 hS) (nI_toInt (by omega)) (by omega) (fun I33 hI33 => ?_)
                    refine r_iconst (v := nI 1) (pc2 := 177) d_M_show_176 rfl (by decide) ?_
                    refine Run.ret (some (.int (nI 1))) d_M_show_177 ⟨_, rfl⟩ ?_
                    first
                      | (exfalso; omega)
                      | (refine RQT.val (by (try simp only [esN, hztsN, efN, b0fN, b1fN, b2fN, b3fN, b4fN, b5fN, b6fN, b8fN, b9fN, erN, t1fNrN, u1fNrN, v1fNrN, x1fNrN, eqN, kya, fya, Int.toNat_natCast] at c1 c2 c3 c5 c6 c15 c16 c25 c26); (unfold o_show); (try dsimp only); (try simp only [esN, hztsN, efN, b0fN, b1fN, b2fN, b3fN, b4fN, b5fN, b6fN, b8fN, b9fN, erN, t1fNrN, u1fNrN, v1fNrN, x1fNrN, eqN, kya, fya, Int.toNat_natCast]); (repeat (first | rw [if_pos (by omega)] | rw [if_neg (by omega)])); (try rfl); (all_goals first | rfl | (simp only [a0fN, a1fN, a2fN, a3fN, a4fN, a5fN, a6fN, a8fN, a9fN]; done) | (congr 2 <;> omega) | ((repeat' split) <;> first | rfl | (simp only [a0fN, a1fN, a2fN, a3fN, a4fN, a5fN, a6fN, a8fN, a9fN]; done) | (exfalso; omega) | (congr 2 <;> omega) | skip))) ?_
                         have hI2 : I_show I (I kA) (I fA) (I cA) (nI sN) (nI fN) (nI rN) (nI qN) = I33 := by
                           unfold I_show
                           rw [if_neg (by omega)]
                           simp only [esN, hztsN, efN, b0fN, b1fN, b2fN, b3fN, b4fN, b5fN, b6fN, b8fN, b9fN, erN, t1fNrN, u1fNrN, v1fNrN, x1fNrN, eqN, kya, fya, Int.toNat_natCast]
                           unfold shT
                           (repeat (first | rw [if_pos (by omega)] | rw [if_neg (by omega)]))
                           rw [nI_toInt (by omega), Int.toNat_natCast]
                           rw [hI33, hI32]
                         rw [hI2]; exact FrS.rf)
                · refine r_aload_n (x := some 761) (pc2 := 111) d_M_show_110 rfl rfl ?_
                  refine r_bipush (v := (-32 : Int32)) (pc2 := 113) d_M_show_111 rfl (by decide) ?_
                  refine q_callv (M2 := mi_M_refused) (pc2 := 116) d_M_show_113 rfl k_M_106 cm_M_refused cv_M_refused (sh_761 hS) (by decide) rfl rfl rfl (Nat.le_of_ble_eq_true rfl) (c_M_refused_0 (I := I) hS hR) (d2 := d - 1) (by omega) (Nat.le_of_eq (Nat.zero_add _)) (Nat.le_of_eq (Nat.zero_add _)) ?_
                  obtain ⟨I34, hI34⟩ : ∃ x, x = u2 I 765 0 (I 765 0 + nI 1) := ⟨_, rfl⟩
                  rw [← hI34]
                  refine Run.ret (some (.int ((-32 : Int32)))) d_M_show_116 ⟨_, rfl⟩ ?_
                  exact RQT.bad 0 (by (try simp only [esN, hztsN, efN, b0fN, b1fN, b2fN, b3fN, b4fN, b5fN, b6fN, b8fN, b9fN, erN, t1fNrN, u1fNrN, v1fNrN, x1fNrN, eqN, kya, fya, Int.toNat_natCast] at c1 c2 c3 c5 c6 c15 c16 c25); (unfold o_show); (try dsimp only); (try simp only [esN, hztsN, efN, b0fN, b1fN, b2fN, b3fN, b4fN, b5fN, b6fN, b8fN, b9fN, erN, t1fNrN, u1fNrN, v1fNrN, x1fNrN, eqN, kya, fya, Int.toNat_natCast]); (repeat (first | rw [if_pos (by omega)] | rw [if_neg (by omega)])); (try rfl); (all_goals first | rfl | (simp only [a0fN, a1fN, a2fN, a3fN, a4fN, a5fN, a6fN, a8fN, a9fN]; done) | (congr 2 <;> omega) | ((repeat' split) <;> first | rfl | (simp only [a0fN, a1fN, a2fN, a3fN, a4fN, a5fN, a6fN, a8fN, a9fN]; done) | (exfalso; omega) | (congr 2 <;> omega) | skip))) (by decide) FrS.rf hI34
            · refine r_aload_n (x := some 761) (pc2 := 82) d_M_show_81 rfl rfl ?_
              refine q_getR (x := some kA) (pc2 := 85) d_M_show_82 rfl k_M_22 rfl (sh_761 hS) hT.1 ?_
              refine r_iload (pc2 := 87) d_M_show_85 rfl rfl ?_
              refine q_iaload (q := rtfNrN) (x := nI kda) (pc2 := 88) d_M_show_87 rfl (hT.2.2.2.2.1) (nI_toInt (by omega)) (by omega) kxa ?_
              refine r_bipush (v := nI 7) (pc2 := 90) d_M_show_88 rfl (by decide) ?_
              refine q_icmp_lt (tgt := 110) (A := ((kda : Nat) : Int)) (B := (7 : Int)) (pc2 := 93) d_M_show_90 rfl rfl (nI_toInt (by omega)) (nI_toInt (by omega)) (fun c35 => ?_) (fun c35 => ?_)
              · refine r_aload_n (x := some 761) (pc2 := 111) d_M_show_110 rfl rfl ?_
                refine r_bipush (v := (-32 : Int32)) (pc2 := 113) d_M_show_111 rfl (by decide) ?_
                refine q_callv (M2 := mi_M_refused) (pc2 := 116) d_M_show_113 rfl k_M_106 cm_M_refused cv_M_refused (sh_761 hS) (by decide) rfl rfl rfl (Nat.le_of_ble_eq_true rfl) (c_M_refused_0 (I := I) hS hR) (d2 := d - 1) (by omega) (Nat.le_of_eq (Nat.zero_add _)) (Nat.le_of_eq (Nat.zero_add _)) ?_
                obtain ⟨I36, hI36⟩ : ∃ x, x = u2 I 765 0 (I 765 0 + nI 1) := ⟨_, rfl⟩
                rw [← hI36]
                refine Run.ret (some (.int ((-32 : Int32)))) d_M_show_116 ⟨_, rfl⟩ ?_
                exact RQT.bad 0 (by (try simp only [esN, hztsN, efN, b0fN, b1fN, b2fN, b3fN, b4fN, b5fN, b6fN, b8fN, b9fN, erN, t1fNrN, u1fNrN, v1fNrN, x1fNrN, eqN, kya, fya, Int.toNat_natCast] at c1 c2 c3 c5 c6 c15 c35); (unfold o_show); (try dsimp only); (try simp only [esN, hztsN, efN, b0fN, b1fN, b2fN, b3fN, b4fN, b5fN, b6fN, b8fN, b9fN, erN, t1fNrN, u1fNrN, v1fNrN, x1fNrN, eqN, kya, fya, Int.toNat_natCast]); (repeat (first | rw [if_pos (by omega)] | rw [if_neg (by omega)])); (try rfl); (all_goals first | rfl | (simp only [a0fN, a1fN, a2fN, a3fN, a4fN, a5fN, a6fN, a8fN, a9fN]; done) | (congr 2 <;> omega) | ((repeat' split) <;> first | rfl | (simp only [a0fN, a1fN, a2fN, a3fN, a4fN, a5fN, a6fN, a8fN, a9fN]; done) | (exfalso; omega) | (congr 2 <;> omega) | skip))) (by decide) FrS.rf hI36
              · refine r_aload_n (x := some 761) (pc2 := 94) d_M_show_93 rfl rfl ?_
                refine q_getR (x := some kA) (pc2 := 97) d_M_show_94 rfl k_M_22 rfl (sh_761 hS) hT.1 ?_
                refine r_iload (pc2 := 99) d_M_show_97 rfl rfl ?_
                refine q_iaload (q := rtfNrN) (x := nI kda) (pc2 := 100) d_M_show_99 rfl (hT.2.2.2.2.1) (nI_toInt (by omega)) (by omega) kxa ?_
                refine r_iconst (v := nI 3) (pc2 := 101) d_M_show_100 rfl (by decide) ?_
                refine q_icmp_ne (tgt := 117) (A := ((kda : Nat) : Int)) (B := (3 : Int)) (pc2 := 104) d_M_show_101 rfl rfl (nI_toInt (by omega)) (nI_toInt (by omega)) (fun c37 => ?_) (fun c37 => ?_)
                · refine r_aload_n (x := some 761) (pc2 := 118) d_M_show_117 rfl rfl ?_
                  refine q_getR (x := some 780) (pc2 := 121) d_M_show_118 rfl k_M_65 rfl (sh_761 hS) (rf_761_30 hR) ?_
                  refine r_iload_n (pc2 := 122) d_M_show_121 rfl rfl ?_
                  refine r_iload (pc2 := 124) d_M_show_122 rfl rfl ?_
                  refine q_if_ne (tgt := 132) (A := ((qN : Nat) : Int)) (pc2 := 127) d_M_show_124 rfl rfl (nI_toInt (by omega)) (fun c38 => ?_) (fun c38 => ?_)
                  · refine r_iload (pc2 := 134) d_M_show_132 rfl rfl ?_
                    refine r_iconst (v := nI 1) (pc2 := 135) d_M_show_134 rfl (by decide) ?_
                    refine q_icmp_ne (tgt := 148) (A := ((qN : Nat) : Int)) (B := (1 : Int)) (pc2 := 138) d_M_show_135 rfl rfl (nI_toInt (by omega)) (nI_toInt (by omega)) (fun c39 => ?_) (fun c39 => ?_)
                    · obtain ⟨cta, cxa, cya⟩ : ∃ a : Nat, I cA rtfNrN = nI a ∧ (I cA rtfNrN).toInt = (a : Int) := ⟨(I cA rtfNrN).toInt.toNat, eq_nI (by omega), by omega⟩
                      refine r_aload_n (x := some 761) (pc2 := 149) d_M_show_148 rfl rfl ?_
                      refine q_getR (x := some cA) (pc2 := 152) d_M_show_149 rfl k_M_28 rfl (sh_761 hS) hT.2.2.1 ?_
                      refine r_iload (pc2 := 154) d_M_show_152 rfl rfl ?_
                      refine q_iaload (q := rtfNrN) (x := nI cta) (pc2 := 155) d_M_show_154 rfl (hT.2.2.2.2.2.2.1) (nI_toInt (by omega)) (by omega) cxa ?_
                      refine q_iastore (q := sN) (pc2 := 156) d_M_show_155 rfl (sh_780 hS) (nI_toInt (by omega)) (by omega) (fun I40 hI40 => ?_)
                      refine r_aload_n (x := some 761) (pc2 := 157) d_M_show_156 rfl rfl ?_
                      refine q_getR (x := some 777) (pc2 := 160) d_M_show_157 rfl k_M_55 rfl (sh_761 hS) (rf_761_27 hR) ?_
                      refine r_iload_n (pc2 := 161) d_M_show_160 rfl rfl ?_
                      refine r_bipush (v := nI 10) (pc2 := 163) d_M_show_161 rfl (by decide) ?_
                      refine r_aload_n (x := some 761) (pc2 := 164) d_M_show_163 rfl rfl ?_
                      refine q_getR (x := some kA) (pc2 := 167) d_M_show_164 rfl k_M_22 rfl (sh_761 hS) hT.1 ?_
                      refine r_aload_n (x := some 761) (pc2 := 168) d_M_show_167 rfl rfl ?_
                      refine q_getR (x := some 780) (pc2 := 171) d_M_show_168 rfl k_M_65 rfl (sh_761 hS) (rf_761_30 hR) ?_
                      refine r_iload_n (pc2 := 172) d_M_show_171 rfl rfl ?_
                      refine q_iaload (q := sN) (x := nI cta) (pc2 := 173) d_M_show_172 rfl (sh_780 hS) (nI_toInt (by omega)) (by omega) (rd_eq hI40) ?_
                      refine q_iaload (q := cta) (x := I kA cta) (pc2 := 174) d_M_show_173 rfl (hT.2.2.2.2.1) (nI_toInt (by omega)) (by omega) (rd_ne hI40 (by exact hkA780)) ?_
                      refine r_iadd (pc2 := 175) d_M_show_174 rfl ?_
                      refine q_iastore (q := sN) (pc2 := 176) d_M_show_175 rfl (sh_777 hS) (nI_toInt (by omega)) (by omega) (fun I41 hI41 => ?_)
                      refine r_iconst (v := nI 1) (pc2 := 177) d_M_show_176 rfl (by decide) ?_
                      refine Run.ret (some (.int (nI 1))) d_M_show_177 ⟨_, rfl⟩ ?_
                      first
                        | (exfalso; omega)
                        | (refine RQT.val (by (try simp only [esN, hztsN, efN, b0fN, b1fN, b2fN, b3fN, b4fN, b5fN, b6fN, b8fN, b9fN, erN, t1fNrN, u1fNrN, v1fNrN, x1fNrN, eqN, kya, fya, cya, Int.toNat_natCast] at c1 c2 c3 c5 c6 c15 c35 c37 c38 c39); (unfold o_show); (try dsimp only); (try simp only [esN, hztsN, efN, b0fN, b1fN, b2fN, b3fN, b4fN, b5fN, b6fN, b8fN, b9fN, erN, t1fNrN, u1fNrN, v1fNrN, x1fNrN, eqN, kya, fya, cya, Int.toNat_natCast]); (repeat (first | rw [if_pos (by omega)] | rw [if_neg (by omega)])); (try rfl); (all_goals first | rfl | (simp only [a0fN, a1fN, a2fN, a3fN, a4fN, a5fN, a6fN, a8fN, a9fN]; done) | (congr 2 <;> omega) | ((repeat' split) <;> first | rfl | (simp only [a0fN, a1fN, a2fN, a3fN, a4fN, a5fN, a6fN, a8fN, a9fN]; done) | (exfalso; omega) | (congr 2 <;> omega) | skip))) ?_
                           have hI2 : I_show I (I kA) (I fA) (I cA) (nI sN) (nI fN) (nI rN) (nI qN) = I41 := by
                             unfold I_show
                             rw [if_neg (by omega)]
                             simp only [esN, hztsN, efN, b0fN, b1fN, b2fN, b3fN, b4fN, b5fN, b6fN, b8fN, b9fN, erN, t1fNrN, u1fNrN, v1fNrN, x1fNrN, eqN, kya, fya, cya, Int.toNat_natCast]
                             unfold shT
                             (repeat (first | rw [if_pos (by omega)] | rw [if_neg (by omega)]))
                             (try simp only [cya, Int.toNat_natCast]); rw [cxa]
                             rw [hI41, hI40]
                           rw [hI2]; exact FrS.rf)
                    · refine r_aload_n (x := some 761) (pc2 := 139) d_M_show_138 rfl rfl ?_
                      refine q_getR (x := some fA) (pc2 := 142) d_M_show_139 rfl k_M_25 rfl (sh_761 hS) hT.2.1 ?_
                      refine r_iload (pc2 := 144) d_M_show_142 rfl rfl ?_
                      refine q_iaload (q := rtfNrN) (x := nI fta) (pc2 := 145) d_M_show_144 rfl (hT.2.2.2.2.2.1) (nI_toInt (by omega)) (by omega) fxa ?_
                      refine r_goto (tgt := 155) d_M_show_145 rfl ?_
                      refine q_iastore (q := sN) (pc2 := 156) d_M_show_155 rfl (sh_780 hS) (nI_toInt (by omega)) (by omega) (fun I42 hI42 => ?_)
                      refine r_aload_n (x := some 761) (pc2 := 157) d_M_show_156 rfl rfl ?_
                      refine q_getR (x := some 777) (pc2 := 160) d_M_show_157 rfl k_M_55 rfl (sh_761 hS) (rf_761_27 hR) ?_
                      refine r_iload_n (pc2 := 161) d_M_show_160 rfl rfl ?_
                      refine r_bipush (v := nI 10) (pc2 := 163) d_M_show_161 rfl (by decide) ?_
                      refine r_aload_n (x := some 761) (pc2 := 164) d_M_show_163 rfl rfl ?_
                      refine q_getR (x := some kA) (pc2 := 167) d_M_show_164 rfl k_M_22 rfl (sh_761 hS) hT.1 ?_
                      refine r_aload_n (x := some 761) (pc2 := 168) d_M_show_167 rfl rfl ?_
                      refine q_getR (x := some 780) (pc2 := 171) d_M_show_168 rfl k_M_65 rfl (sh_761 hS) (rf_761_30 hR) ?_
                      refine r_iload_n (pc2 := 172) d_M_show_171 rfl rfl ?_
                      refine q_iaload (q := sN) (x := nI fta) (pc2 := 173) d_M_show_172 rfl (sh_780 hS) (nI_toInt (by omega)) (by omega) (rd_eq hI42) ?_
                      refine q_iaload (q := fta) (x := I kA fta) (pc2 := 174) d_M_show_173 rfl (hT.2.2.2.2.1) (nI_toInt (by omega)) (by omega) (rd_ne hI42 (by exact hkA780)) ?_
                      refine r_iadd (pc2 := 175) d_M_show_174 rfl ?_
                      refine q_iastore (q := sN) (pc2 := 176) d_M_show_175 rfl (sh_777 hS) (nI_toInt (by omega)) (by omega) (fun I43 hI43 => ?_)
                      refine r_iconst (v := nI 1) (pc2 := 177) d_M_show_176 rfl (by decide) ?_
                      refine Run.ret (some (.int (nI 1))) d_M_show_177 ⟨_, rfl⟩ ?_
                      first
                        | (exfalso; omega)
                        | (refine RQT.val (by (try simp only [esN, hztsN, efN, b0fN, b1fN, b2fN, b3fN, b4fN, b5fN, b6fN, b8fN, b9fN, erN, t1fNrN, u1fNrN, v1fNrN, x1fNrN, eqN, kya, fya, Int.toNat_natCast] at c1 c2 c3 c5 c6 c15 c35 c37 c38 c39); (unfold o_show); (try dsimp only); (try simp only [esN, hztsN, efN, b0fN, b1fN, b2fN, b3fN, b4fN, b5fN, b6fN, b8fN, b9fN, erN, t1fNrN, u1fNrN, v1fNrN, x1fNrN, eqN, kya, fya, Int.toNat_natCast]); (repeat (first | rw [if_pos (by omega)] | rw [if_neg (by omega)])); (try rfl); (all_goals first | rfl | (simp only [a0fN, a1fN, a2fN, a3fN, a4fN, a5fN, a6fN, a8fN, a9fN]; done) | (congr 2 <;> omega) | ((repeat' split) <;> first | rfl | (simp only [a0fN, a1fN, a2fN, a3fN, a4fN, a5fN, a6fN, a8fN, a9fN]; done) | (exfalso; omega) | (congr 2 <;> omega) | skip))) ?_
                           have hI2 : I_show I (I kA) (I fA) (I cA) (nI sN) (nI fN) (nI rN) (nI qN) = I43 := by
                             unfold I_show
                             rw [if_neg (by omega)]
                             simp only [esN, hztsN, efN, b0fN, b1fN, b2fN, b3fN, b4fN, b5fN, b6fN, b8fN, b9fN, erN, t1fNrN, u1fNrN, v1fNrN, x1fNrN, eqN, kya, fya, Int.toNat_natCast]
                             unfold shT
                             (repeat (first | rw [if_pos (by omega)] | rw [if_neg (by omega)]))
                             (try simp only [fya, Int.toNat_natCast]); rw [fxa]
                             rw [hI43, hI42]
                           rw [hI2]; exact FrS.rf)
                  · refine r_iload (pc2 := 129) d_M_show_127 rfl rfl ?_
                    refine r_goto (tgt := 155) d_M_show_129 rfl ?_
                    refine q_iastore (q := sN) (pc2 := 156) d_M_show_155 rfl (sh_780 hS) (nI_toInt (by omega)) (by omega) (fun I44 hI44 => ?_)
                    refine r_aload_n (x := some 761) (pc2 := 157) d_M_show_156 rfl rfl ?_
                    refine q_getR (x := some 777) (pc2 := 160) d_M_show_157 rfl k_M_55 rfl (sh_761 hS) (rf_761_27 hR) ?_
                    refine r_iload_n (pc2 := 161) d_M_show_160 rfl rfl ?_
                    refine r_bipush (v := nI 10) (pc2 := 163) d_M_show_161 rfl (by decide) ?_
                    refine r_aload_n (x := some 761) (pc2 := 164) d_M_show_163 rfl rfl ?_
                    refine q_getR (x := some kA) (pc2 := 167) d_M_show_164 rfl k_M_22 rfl (sh_761 hS) hT.1 ?_
                    refine r_aload_n (x := some 761) (pc2 := 168) d_M_show_167 rfl rfl ?_
                    refine q_getR (x := some 780) (pc2 := 171) d_M_show_168 rfl k_M_65 rfl (sh_761 hS) (rf_761_30 hR) ?_
                    refine r_iload_n (pc2 := 172) d_M_show_171 rfl rfl ?_
                    refine q_iaload (q := sN) (x := nI rtfNrN) (pc2 := 173) d_M_show_172 rfl (sh_780 hS) (nI_toInt (by omega)) (by omega) (rd_eq hI44) ?_
                    refine q_iaload (q := rtfNrN) (x := I kA rtfNrN) (pc2 := 174) d_M_show_173 rfl (hT.2.2.2.2.1) (nI_toInt (by omega)) (by omega) (rd_ne hI44 (by exact hkA780)) ?_
                    refine r_iadd (pc2 := 175) d_M_show_174 rfl ?_
                    refine q_iastore (q := sN) (pc2 := 176) d_M_show_175 rfl (sh_777 hS) (nI_toInt (by omega)) (by omega) (fun I45 hI45 => ?_)
                    refine r_iconst (v := nI 1) (pc2 := 177) d_M_show_176 rfl (by decide) ?_
                    refine Run.ret (some (.int (nI 1))) d_M_show_177 ⟨_, rfl⟩ ?_
                    first
                      | (exfalso; omega)
                      | (refine RQT.val (by (try simp only [esN, hztsN, efN, b0fN, b1fN, b2fN, b3fN, b4fN, b5fN, b6fN, b8fN, b9fN, erN, t1fNrN, u1fNrN, v1fNrN, x1fNrN, eqN, kya, fya, Int.toNat_natCast] at c1 c2 c3 c5 c6 c15 c35 c37 c38); (unfold o_show); (try dsimp only); (try simp only [esN, hztsN, efN, b0fN, b1fN, b2fN, b3fN, b4fN, b5fN, b6fN, b8fN, b9fN, erN, t1fNrN, u1fNrN, v1fNrN, x1fNrN, eqN, kya, fya, Int.toNat_natCast]); (repeat (first | rw [if_pos (by omega)] | rw [if_neg (by omega)])); (try rfl); (all_goals first | rfl | (simp only [a0fN, a1fN, a2fN, a3fN, a4fN, a5fN, a6fN, a8fN, a9fN]; done) | (congr 2 <;> omega) | ((repeat' split) <;> first | rfl | (simp only [a0fN, a1fN, a2fN, a3fN, a4fN, a5fN, a6fN, a8fN, a9fN]; done) | (exfalso; omega) | (congr 2 <;> omega) | skip))) ?_
                         have hI2 : I_show I (I kA) (I fA) (I cA) (nI sN) (nI fN) (nI rN) (nI qN) = I45 := by
                           unfold I_show
                           rw [if_neg (by omega)]
                           simp only [esN, hztsN, efN, b0fN, b1fN, b2fN, b3fN, b4fN, b5fN, b6fN, b8fN, b9fN, erN, t1fNrN, u1fNrN, v1fNrN, x1fNrN, eqN, kya, fya, Int.toNat_natCast]
                           unfold shT
                           (repeat (first | rw [if_pos (by omega)] | rw [if_neg (by omega)]))
                           rw [nI_toInt (by omega), Int.toNat_natCast]
                           rw [hI45, hI44]
                         rw [hI2]; exact FrS.rf)
                · refine r_iload (pc2 := 106) d_M_show_104 rfl rfl ?_
                  refine r_iconst (v := nI 2) (pc2 := 107) d_M_show_106 rfl (by decide) ?_
                  refine q_icmp_ne (tgt := 117) (A := ((qN : Nat) : Int)) (B := (2 : Int)) (pc2 := 110) d_M_show_107 rfl rfl (nI_toInt (by omega)) (nI_toInt (by omega)) (fun c46 => ?_) (fun c46 => ?_)
                  · refine r_aload_n (x := some 761) (pc2 := 118) d_M_show_117 rfl rfl ?_
                    refine q_getR (x := some 780) (pc2 := 121) d_M_show_118 rfl k_M_65 rfl (sh_761 hS) (rf_761_30 hR) ?_
                    refine r_iload_n (pc2 := 122) d_M_show_121 rfl rfl ?_
                    refine r_iload (pc2 := 124) d_M_show_122 rfl rfl ?_
                    refine q_if_ne (tgt := 132) (A := ((qN : Nat) : Int)) (pc2 := 127) d_M_show_124 rfl rfl (nI_toInt (by omega)) (fun c47 => ?_) (fun c47 => ?_)
                    · refine r_iload (pc2 := 134) d_M_show_132 rfl rfl ?_
                      refine r_iconst (v := nI 1) (pc2 := 135) d_M_show_134 rfl (by decide) ?_
                      refine q_icmp_ne (tgt := 148) (A := ((qN : Nat) : Int)) (B := (1 : Int)) (pc2 := 138) d_M_show_135 rfl rfl (nI_toInt (by omega)) (nI_toInt (by omega)) (fun c48 => ?_) (fun c48 => ?_)
                      · obtain ⟨cta, cxa, cya⟩ : ∃ a : Nat, I cA rtfNrN = nI a ∧ (I cA rtfNrN).toInt = (a : Int) := ⟨(I cA rtfNrN).toInt.toNat, eq_nI (by omega), by omega⟩
                        refine r_aload_n (x := some 761) (pc2 := 149) d_M_show_148 rfl rfl ?_
                        refine q_getR (x := some cA) (pc2 := 152) d_M_show_149 rfl k_M_28 rfl (sh_761 hS) hT.2.2.1 ?_
                        refine r_iload (pc2 := 154) d_M_show_152 rfl rfl ?_
                        refine q_iaload (q := rtfNrN) (x := nI cta) (pc2 := 155) d_M_show_154 rfl (hT.2.2.2.2.2.2.1) (nI_toInt (by omega)) (by omega) cxa ?_
                        refine q_iastore (q := sN) (pc2 := 156) d_M_show_155 rfl (sh_780 hS) (nI_toInt (by omega)) (by omega) (fun I49 hI49 => ?_)
                        refine r_aload_n (x := some 761) (pc2 := 157) d_M_show_156 rfl rfl ?_
                        refine q_getR (x := some 777) (pc2 := 160) d_M_show_157 rfl k_M_55 rfl (sh_761 hS) (rf_761_27 hR) ?_
                        refine r_iload_n (pc2 := 161) d_M_show_160 rfl rfl ?_
                        refine r_bipush (v := nI 10) (pc2 := 163) d_M_show_161 rfl (by decide) ?_
                        refine r_aload_n (x := some 761) (pc2 := 164) d_M_show_163 rfl rfl ?_
                        refine q_getR (x := some kA) (pc2 := 167) d_M_show_164 rfl k_M_22 rfl (sh_761 hS) hT.1 ?_
                        refine r_aload_n (x := some 761) (pc2 := 168) d_M_show_167 rfl rfl ?_
                        refine q_getR (x := some 780) (pc2 := 171) d_M_show_168 rfl k_M_65 rfl (sh_761 hS) (rf_761_30 hR) ?_
                        refine r_iload_n (pc2 := 172) d_M_show_171 rfl rfl ?_
                        refine q_iaload (q := sN) (x := nI cta) (pc2 := 173) d_M_show_172 rfl (sh_780 hS) (nI_toInt (by omega)) (by omega) (rd_eq hI49) ?_
                        refine q_iaload (q := cta) (x := I kA cta) (pc2 := 174) d_M_show_173 rfl (hT.2.2.2.2.1) (nI_toInt (by omega)) (by omega) (rd_ne hI49 (by exact hkA780)) ?_
                        refine r_iadd (pc2 := 175) d_M_show_174 rfl ?_
                        refine q_iastore (q := sN) (pc2 := 176) d_M_show_175 rfl (sh_777 hS) (nI_toInt (by omega)) (by omega) (fun I50 hI50 => ?_)
                        refine r_iconst (v := nI 1) (pc2 := 177) d_M_show_176 rfl (by decide) ?_
                        refine Run.ret (some (.int (nI 1))) d_M_show_177 ⟨_, rfl⟩ ?_
                        first
                          | (exfalso; omega)
                          | (refine RQT.val (by (try simp only [esN, hztsN, efN, b0fN, b1fN, b2fN, b3fN, b4fN, b5fN, b6fN, b8fN, b9fN, erN, t1fNrN, u1fNrN, v1fNrN, x1fNrN, eqN, kya, fya, cya, Int.toNat_natCast] at c1 c2 c3 c5 c6 c15 c35 c37 c46 c47 c48); (unfold o_show); (try dsimp only); (try simp only [esN, hztsN, efN, b0fN, b1fN, b2fN, b3fN, b4fN, b5fN, b6fN, b8fN, b9fN, erN, t1fNrN, u1fNrN, v1fNrN, x1fNrN, eqN, kya, fya, cya, Int.toNat_natCast]); (repeat (first | rw [if_pos (by omega)] | rw [if_neg (by omega)])); (try rfl); (all_goals first | rfl | (simp only [a0fN, a1fN, a2fN, a3fN, a4fN, a5fN, a6fN, a8fN, a9fN]; done) | (congr 2 <;> omega) | ((repeat' split) <;> first | rfl | (simp only [a0fN, a1fN, a2fN, a3fN, a4fN, a5fN, a6fN, a8fN, a9fN]; done) | (exfalso; omega) | (congr 2 <;> omega) | skip))) ?_
                             have hI2 : I_show I (I kA) (I fA) (I cA) (nI sN) (nI fN) (nI rN) (nI qN) = I50 := by
                               unfold I_show
                               rw [if_neg (by omega)]
                               simp only [esN, hztsN, efN, b0fN, b1fN, b2fN, b3fN, b4fN, b5fN, b6fN, b8fN, b9fN, erN, t1fNrN, u1fNrN, v1fNrN, x1fNrN, eqN, kya, fya, cya, Int.toNat_natCast]
                               unfold shT
                               (repeat (first | rw [if_pos (by omega)] | rw [if_neg (by omega)]))
                               (try simp only [cya, Int.toNat_natCast]); rw [cxa]
                               rw [hI50, hI49]
                             rw [hI2]; exact FrS.rf)
                      · refine r_aload_n (x := some 761) (pc2 := 139) d_M_show_138 rfl rfl ?_
                        refine q_getR (x := some fA) (pc2 := 142) d_M_show_139 rfl k_M_25 rfl (sh_761 hS) hT.2.1 ?_
                        refine r_iload (pc2 := 144) d_M_show_142 rfl rfl ?_
                        refine q_iaload (q := rtfNrN) (x := nI fta) (pc2 := 145) d_M_show_144 rfl (hT.2.2.2.2.2.1) (nI_toInt (by omega)) (by omega) fxa ?_
                        refine r_goto (tgt := 155) d_M_show_145 rfl ?_
                        refine q_iastore (q := sN) (pc2 := 156) d_M_show_155 rfl (sh_780 hS) (nI_toInt (by omega)) (by omega) (fun I51 hI51 => ?_)
                        refine r_aload_n (x := some 761) (pc2 := 157) d_M_show_156 rfl rfl ?_
                        refine q_getR (x := some 777) (pc2 := 160) d_M_show_157 rfl k_M_55 rfl (sh_761 hS) (rf_761_27 hR) ?_
                        refine r_iload_n (pc2 := 161) d_M_show_160 rfl rfl ?_
                        refine r_bipush (v := nI 10) (pc2 := 163) d_M_show_161 rfl (by decide) ?_
                        refine r_aload_n (x := some 761) (pc2 := 164) d_M_show_163 rfl rfl ?_
                        refine q_getR (x := some kA) (pc2 := 167) d_M_show_164 rfl k_M_22 rfl (sh_761 hS) hT.1 ?_
                        refine r_aload_n (x := some 761) (pc2 := 168) d_M_show_167 rfl rfl ?_
                        refine q_getR (x := some 780) (pc2 := 171) d_M_show_168 rfl k_M_65 rfl (sh_761 hS) (rf_761_30 hR) ?_
                        refine r_iload_n (pc2 := 172) d_M_show_171 rfl rfl ?_
                        refine q_iaload (q := sN) (x := nI fta) (pc2 := 173) d_M_show_172 rfl (sh_780 hS) (nI_toInt (by omega)) (by omega) (rd_eq hI51) ?_
                        refine q_iaload (q := fta) (x := I kA fta) (pc2 := 174) d_M_show_173 rfl (hT.2.2.2.2.1) (nI_toInt (by omega)) (by omega) (rd_ne hI51 (by exact hkA780)) ?_
                        refine r_iadd (pc2 := 175) d_M_show_174 rfl ?_
                        refine q_iastore (q := sN) (pc2 := 176) d_M_show_175 rfl (sh_777 hS) (nI_toInt (by omega)) (by omega) (fun I52 hI52 => ?_)
                        refine r_iconst (v := nI 1) (pc2 := 177) d_M_show_176 rfl (by decide) ?_
                        refine Run.ret (some (.int (nI 1))) d_M_show_177 ⟨_, rfl⟩ ?_
                        first
                          | (exfalso; omega)
                          | (refine RQT.val (by (try simp only [esN, hztsN, efN, b0fN, b1fN, b2fN, b3fN, b4fN, b5fN, b6fN, b8fN, b9fN, erN, t1fNrN, u1fNrN, v1fNrN, x1fNrN, eqN, kya, fya, Int.toNat_natCast] at c1 c2 c3 c5 c6 c15 c35 c37 c46 c47 c48); (unfold o_show); (try dsimp only); (try simp only [esN, hztsN, efN, b0fN, b1fN, b2fN, b3fN, b4fN, b5fN, b6fN, b8fN, b9fN, erN, t1fNrN, u1fNrN, v1fNrN, x1fNrN, eqN, kya, fya, Int.toNat_natCast]); (repeat (first | rw [if_pos (by omega)] | rw [if_neg (by omega)])); (try rfl); (all_goals first | rfl | (simp only [a0fN, a1fN, a2fN, a3fN, a4fN, a5fN, a6fN, a8fN, a9fN]; done) | (congr 2 <;> omega) | ((repeat' split) <;> first | rfl | (simp only [a0fN, a1fN, a2fN, a3fN, a4fN, a5fN, a6fN, a8fN, a9fN]; done) | (exfalso; omega) | (congr 2 <;> omega) | skip))) ?_
                             have hI2 : I_show I (I kA) (I fA) (I cA) (nI sN) (nI fN) (nI rN) (nI qN) = I52 := by
                               unfold I_show
                               rw [if_neg (by omega)]
                               simp only [esN, hztsN, efN, b0fN, b1fN, b2fN, b3fN, b4fN, b5fN, b6fN, b8fN, b9fN, erN, t1fNrN, u1fNrN, v1fNrN, x1fNrN, eqN, kya, fya, Int.toNat_natCast]
                               unfold shT
                               (repeat (first | rw [if_pos (by omega)] | rw [if_neg (by omega)]))
                               (try simp only [fya, Int.toNat_natCast]); rw [fxa]
                               rw [hI52, hI51]
                             rw [hI2]; exact FrS.rf)
                    · refine r_iload (pc2 := 129) d_M_show_127 rfl rfl ?_
                      refine r_goto (tgt := 155) d_M_show_129 rfl ?_
                      refine q_iastore (q := sN) (pc2 := 156) d_M_show_155 rfl (sh_780 hS) (nI_toInt (by omega)) (by omega) (fun I53 hI53 => ?_)
                      refine r_aload_n (x := some 761) (pc2 := 157) d_M_show_156 rfl rfl ?_
                      refine q_getR (x := some 777) (pc2 := 160) d_M_show_157 rfl k_M_55 rfl (sh_761 hS) (rf_761_27 hR) ?_
                      refine r_iload_n (pc2 := 161) d_M_show_160 rfl rfl ?_
                      refine r_bipush (v := nI 10) (pc2 := 163) d_M_show_161 rfl (by decide) ?_
                      refine r_aload_n (x := some 761) (pc2 := 164) d_M_show_163 rfl rfl ?_
                      refine q_getR (x := some kA) (pc2 := 167) d_M_show_164 rfl k_M_22 rfl (sh_761 hS) hT.1 ?_
                      refine r_aload_n (x := some 761) (pc2 := 168) d_M_show_167 rfl rfl ?_
                      refine q_getR (x := some 780) (pc2 := 171) d_M_show_168 rfl k_M_65 rfl (sh_761 hS) (rf_761_30 hR) ?_
                      refine r_iload_n (pc2 := 172) d_M_show_171 rfl rfl ?_
                      refine q_iaload (q := sN) (x := nI rtfNrN) (pc2 := 173) d_M_show_172 rfl (sh_780 hS) (nI_toInt (by omega)) (by omega) (rd_eq hI53) ?_
                      refine q_iaload (q := rtfNrN) (x := I kA rtfNrN) (pc2 := 174) d_M_show_173 rfl (hT.2.2.2.2.1) (nI_toInt (by omega)) (by omega) (rd_ne hI53 (by exact hkA780)) ?_
                      refine r_iadd (pc2 := 175) d_M_show_174 rfl ?_
                      refine q_iastore (q := sN) (pc2 := 176) d_M_show_175 rfl (sh_777 hS) (nI_toInt (by omega)) (by omega) (fun I54 hI54 => ?_)
                      refine r_iconst (v := nI 1) (pc2 := 177) d_M_show_176 rfl (by decide) ?_
                      refine Run.ret (some (.int (nI 1))) d_M_show_177 ⟨_, rfl⟩ ?_
                      first
                        | (exfalso; omega)
                        | (refine RQT.val (by (try simp only [esN, hztsN, efN, b0fN, b1fN, b2fN, b3fN, b4fN, b5fN, b6fN, b8fN, b9fN, erN, t1fNrN, u1fNrN, v1fNrN, x1fNrN, eqN, kya, fya, Int.toNat_natCast] at c1 c2 c3 c5 c6 c15 c35 c37 c46 c47); (unfold o_show); (try dsimp only); (try simp only [esN, hztsN, efN, b0fN, b1fN, b2fN, b3fN, b4fN, b5fN, b6fN, b8fN, b9fN, erN, t1fNrN, u1fNrN, v1fNrN, x1fNrN, eqN, kya, fya, Int.toNat_natCast]); (repeat (first | rw [if_pos (by omega)] | rw [if_neg (by omega)])); (try rfl); (all_goals first | rfl | (simp only [a0fN, a1fN, a2fN, a3fN, a4fN, a5fN, a6fN, a8fN, a9fN]; done) | (congr 2 <;> omega) | ((repeat' split) <;> first | rfl | (simp only [a0fN, a1fN, a2fN, a3fN, a4fN, a5fN, a6fN, a8fN, a9fN]; done) | (exfalso; omega) | (congr 2 <;> omega) | skip))) ?_
                           have hI2 : I_show I (I kA) (I fA) (I cA) (nI sN) (nI fN) (nI rN) (nI qN) = I54 := by
                             unfold I_show
                             rw [if_neg (by omega)]
                             simp only [esN, hztsN, efN, b0fN, b1fN, b2fN, b3fN, b4fN, b5fN, b6fN, b8fN, b9fN, erN, t1fNrN, u1fNrN, v1fNrN, x1fNrN, eqN, kya, fya, Int.toNat_natCast]
                             unfold shT
                             (repeat (first | rw [if_pos (by omega)] | rw [if_neg (by omega)]))
                             rw [nI_toInt (by omega), Int.toNat_natCast]
                             rw [hI54, hI53]
                           rw [hI2]; exact FrS.rf)
                  · refine r_aload_n (x := some 761) (pc2 := 111) d_M_show_110 rfl rfl ?_
                    refine r_bipush (v := (-32 : Int32)) (pc2 := 113) d_M_show_111 rfl (by decide) ?_
                    refine q_callv (M2 := mi_M_refused) (pc2 := 116) d_M_show_113 rfl k_M_106 cm_M_refused cv_M_refused (sh_761 hS) (by decide) rfl rfl rfl (Nat.le_of_ble_eq_true rfl) (c_M_refused_0 (I := I) hS hR) (d2 := d - 1) (by omega) (Nat.le_of_eq (Nat.zero_add _)) (Nat.le_of_eq (Nat.zero_add _)) ?_
                    obtain ⟨I55, hI55⟩ : ∃ x, x = u2 I 765 0 (I 765 0 + nI 1) := ⟨_, rfl⟩
                    rw [← hI55]
                    refine Run.ret (some (.int ((-32 : Int32)))) d_M_show_116 ⟨_, rfl⟩ ?_
                    exact RQT.bad 0 (by (try simp only [esN, hztsN, efN, b0fN, b1fN, b2fN, b3fN, b4fN, b5fN, b6fN, b8fN, b9fN, erN, t1fNrN, u1fNrN, v1fNrN, x1fNrN, eqN, kya, fya, Int.toNat_natCast] at c1 c2 c3 c5 c6 c15 c35 c37 c46); (unfold o_show); (try dsimp only); (try simp only [esN, hztsN, efN, b0fN, b1fN, b2fN, b3fN, b4fN, b5fN, b6fN, b8fN, b9fN, erN, t1fNrN, u1fNrN, v1fNrN, x1fNrN, eqN, kya, fya, Int.toNat_natCast]); (repeat (first | rw [if_pos (by omega)] | rw [if_neg (by omega)])); (try rfl); (all_goals first | rfl | (simp only [a0fN, a1fN, a2fN, a3fN, a4fN, a5fN, a6fN, a8fN, a9fN]; done) | (congr 2 <;> omega) | ((repeat' split) <;> first | rfl | (simp only [a0fN, a1fN, a2fN, a3fN, a4fN, a5fN, a6fN, a8fN, a9fN]; done) | (exfalso; omega) | (congr 2 <;> omega) | skip))) (by decide) FrS.rf hI55
        · refine r_aload_n (x := some 761) (pc2 := 51) d_M_show_50 rfl rfl ?_
          refine r_bipush (v := (-32 : Int32)) (pc2 := 53) d_M_show_51 rfl (by decide) ?_
          refine q_callv (M2 := mi_M_refused) (pc2 := 56) d_M_show_53 rfl k_M_106 cm_M_refused cv_M_refused (sh_761 hS) (by decide) rfl rfl rfl (Nat.le_of_ble_eq_true rfl) (c_M_refused_0 (I := I) hS hR) (d2 := d - 1) (by omega) (Nat.le_of_eq (Nat.zero_add _)) (Nat.le_of_eq (Nat.zero_add _)) ?_
          obtain ⟨I56, hI56⟩ : ∃ x, x = u2 I 765 0 (I 765 0 + nI 1) := ⟨_, rfl⟩
          rw [← hI56]
          refine Run.ret (some (.int ((-32 : Int32)))) d_M_show_56 ⟨_, rfl⟩ ?_
          exact RQT.bad 0 (by (try simp only [esN, hztsN, efN, b0fN, b1fN, b2fN, b3fN, b4fN, b5fN, b6fN, b8fN, b9fN, erN, t1fNrN, u1fNrN, v1fNrN, x1fNrN, Int.toNat_natCast] at c1 c2 c3 c5); (unfold o_show); (try dsimp only); (try simp only [esN, hztsN, efN, b0fN, b1fN, b2fN, b3fN, b4fN, b5fN, b6fN, b8fN, b9fN, erN, t1fNrN, u1fNrN, v1fNrN, x1fNrN, Int.toNat_natCast]); (repeat (first | rw [if_pos (by omega)] | rw [if_neg (by omega)])); (try rfl); (all_goals first | rfl | (simp only [a0fN, a1fN, a2fN, a3fN, a4fN, a5fN, a6fN, a8fN, a9fN]; done) | (congr 2 <;> omega) | ((repeat' split) <;> first | rfl | (simp only [a0fN, a1fN, a2fN, a3fN, a4fN, a5fN, a6fN, a8fN, a9fN]; done) | (exfalso; omega) | (congr 2 <;> omega) | skip))) (by decide) FrS.rf hI56
    · refine r_aload_n (x := some 761) (pc2 := 20) d_M_show_19 rfl rfl ?_
      refine q_getR (x := some 777) (pc2 := 23) d_M_show_20 rfl k_M_55 rfl (sh_761 hS) (rf_761_27 hR) ?_
      refine r_iload_n (pc2 := 24) d_M_show_23 rfl rfl ?_
      refine r_iconst (v := (-1 : Int32)) (pc2 := 25) d_M_show_24 rfl (by decide) ?_
      refine q_iastore (q := sN) (pc2 := 26) d_M_show_25 rfl (sh_777 hS) (nI_toInt (by omega)) (by omega) (fun I57 hI57 => ?_)
      refine r_iconst (v := nI 1) (pc2 := 27) d_M_show_26 rfl (by decide) ?_
      refine Run.ret (some (.int (nI 1))) d_M_show_27 ⟨_, rfl⟩ ?_
      first
        | (exfalso; omega)
        | (refine RQT.val (by (try simp only [esN, hztsN, Int.toNat_natCast] at c1 c2); (unfold o_show); (try dsimp only); (try simp only [esN, hztsN, Int.toNat_natCast]); (repeat (first | rw [if_pos (by omega)] | rw [if_neg (by omega)])); (try rfl); (all_goals first | rfl | (congr 2 <;> omega) | ((repeat' split) <;> first | rfl | (exfalso; omega) | (congr 2 <;> omega) | skip))) ?_
           have hI2 : I_show I (I kA) (I fA) (I cA) (nI sN) f r q = I57 := by unfold I_show; rw [if_pos (by omega)]; simp only [esN, Int.toNat_natCast]; rw [hI57]
           rw [hI2]; exact FrS.rf)
  · refine r_aload_n (x := some 761) (pc2 := 8) d_M_show_7 rfl rfl ?_
    refine r_bipush (v := (-32 : Int32)) (pc2 := 10) d_M_show_8 rfl (by decide) ?_
    refine q_callv (M2 := mi_M_refused) (pc2 := 13) d_M_show_10 rfl k_M_106 cm_M_refused cv_M_refused (sh_761 hS) (by decide) rfl rfl rfl (Nat.le_of_ble_eq_true rfl) (c_M_refused_0 (I := I) hS hR) (d2 := d - 1) (by omega) (Nat.le_of_eq (Nat.zero_add _)) (Nat.le_of_eq (Nat.zero_add _)) ?_
    obtain ⟨I58, hI58⟩ : ∃ x, x = u2 I 765 0 (I 765 0 + nI 1) := ⟨_, rfl⟩
    rw [← hI58]
    refine Run.ret (some (.int ((-32 : Int32)))) d_M_show_13 ⟨_, rfl⟩ ?_
    exact RQT.bad 0 (by (unfold o_show); (try dsimp only); (try simp only [Int.toNat_natCast]); (repeat (first | rw [if_pos (by omega)] | rw [if_neg (by omega)])); (try rfl); (all_goals first | rfl | (congr 2 <;> omega) | ((repeat' split) <;> first | rfl | (exfalso; omega) | (congr 2 <;> omega) | skip))) (by decide) FrS.rf hI58
theorem l_M_judge {d : Nat} {I : Nat → Nat → Int32} {R : Nat → Nat → Option Nat} {L : Nat → Nat → Int64} {sh : Nat → Nat × Nat} {N : Nat} (hS : ShOK sh) (hR : RfOK R) {kA fA cA gA nk nt : Nat} (hT : TRf R sh kA fA cA gA nk) (hTn : TNe kA fA cA gA) (hV : TV (I kA) (I fA) (I cA) nt) (hnt : nt ≤ nk) (hnk : nk ≤ 1000000) {nP nF : Nat} (hW : WFA (I 762) nP nF nt) {rk : Nat → Nat} (hrk : RK (I 762) nF rk) {F s n : Nat} (hF : F < nF) (hs8 : s < 8) (hn20 : n ≤ 20) {Q : Option Value → HS → Prop} (hb : ∀ J K, FrS I J → (∃ k, k < n ∧ (fun k => (pJ (I 762) nP (L 779 (40 * s + 2 * k))).isNone) k = true) → K = u2 J 765 3 (J 765 3 + nI 1) → Q (some (.int (-35 : Int32))) (K, R, L, sh, N)) (hq : ∀ J, FrS I J → (∀ j, j < n → (pJ (I 762) nP (L 779 (40 * s + 2 * j))).isNone = false) → Q (some (.int (vo (fst1 (jP (TRE I kA fA cA gA) (I 762) nP F (L 779) (40 * s)) n)))) (J, R, L, sh, N)) (hd : nt + 40 ≤ d) : ∀ (n_ : Nat) (m : Nat) (J : Nat → Nat → Int32), m = n_ → (FrS (setR I 762 (I 762)) J) → (∀ j, m ≤ j → j < n → (pJ (I 762) nP (L 779 (40 * s + 2 * j))).isNone = false) → (m ≤ n) → Run mi_M_judge d 0 0 94 [(0, .ref 761), (1, .int (nI F)), (2, .int (nI s)), (3, .int (nI n)), (4, .int (vo (fstF (jP (TRE I kA fA cA gA) (I 762) nP F (L 779) (40 * s)) m n))), (5, .int (nI m - nI 1))] [] (J, R, L, sh, N) Q := by
  intro n_
  induction n_ using Nat.strongRecOn with | ind n_ ih_ => ?_
  intro m J hn_ v0_ v1_ v2_
  have hGJ := v0_.row2
  obtain ⟨hPc, hP24, hFc, hF12, hWF, hWP⟩ := id hW
  refine r_iload (pc2 := 96) d_M_judge_94 rfl rfl ?_
  refine q_if_lt (tgt := 195) (A := ((m : Nat) : Int) - ((1 : Nat) : Int)) (pc2 := 99) d_M_judge_96 rfl rfl (nI_sub_toInt (by omega) (by omega)) (fun c1 => ?_) (fun c1 => ?_)
  · refine r_iload (pc2 := 197) d_M_judge_195 rfl rfl ?_
    refine Run.ret (some (.int (vo (fstF (jP (TRE I kA fA cA gA) (I 762) nP F (L 779) (40 * s)) m n)))) d_M_judge_197 ⟨_, rfl⟩ ?_
    have hm0 : m = 0 := by omega
    subst hm0; rw [fstF_0]; exact hq J (by rw [setR_self] at v0_; exact v0_) (fun j hj => v1_ j (by omega) hj)
  · obtain ⟨k, rfl⟩ : ∃ k, m = k + 1 := ⟨m - 1, by omega⟩
    rw [show nI (k + 1) - nI 1 = nI k from (pk_sub (by omega)).trans rfl]
    refine r_aload_n (x := some 761) (pc2 := 100) d_M_judge_99 rfl rfl ?_
    refine q_getR (x := some 779) (pc2 := 103) d_M_judge_100 rfl k_M_61 rfl (sh_761 hS) (rf_761_29 hR) ?_
    refine r_bipush (v := nI 40) (pc2 := 105) d_M_judge_103 rfl (by decide) ?_
    refine r_iload_n (pc2 := 106) d_M_judge_105 rfl rfl ?_
    refine q_imulN (pc2 := 107) d_M_judge_106 rfl ?_
    refine r_iconst (v := nI 2) (pc2 := 108) d_M_judge_107 rfl (by decide) ?_
    refine r_iload (pc2 := 110) d_M_judge_108 rfl rfl ?_
    refine q_imulN (pc2 := 111) d_M_judge_110 rfl ?_
    refine q_iaddN (pc2 := 112) d_M_judge_111 rfl ?_
    refine q_laload (q := 40 * s + 2 * k) (x := L 779 (40 * s + 2 * k)) (pc2 := 113) d_M_judge_112 rfl (sh_779 hS) (nI_toInt (by omega)) (by omega) rfl ?_
    refine r_lstore (pc2 := 115) d_M_judge_113 rfl (Nat.le_of_ble_eq_true rfl) ?_
    refine r_lload (pc2 := 117) d_M_judge_115 rfl rfl ?_
    refine r_lconst (v := (0 : Int64)) (pc2 := 118) d_M_judge_117 rfl (by decide) ?_
    refine r_ldc2 (pc2 := 121) d_M_judge_118 rfl k_M_212 ?_
    refine q_calls (M2 := mi_M_in) (pc2 := 124) d_M_judge_121 rfl k_M_68 cm_M_in cs_M_in rfl rfl (Nat.le_of_ble_eq_true rfl) (c_M_in (A := (L 779 (40 * s + 2 * k)).toInt) (B := (0 : Int)) (C := (999999 : Int)) (rfl) (by decide) (by decide)) (d2 := d - 1) (by omega) (Nat.le_of_eq (Nat.zero_add _)) (Nat.le_of_eq (Nat.zero_add _)) ?_
    refine q_bif_eq (tgt := 137) (pc2 := 127) d_M_judge_124 rfl rfl (fun c2 => ?_) (fun c2 => ?_)
    · refine r_iconst (v := (-1 : Int32)) (pc2 := 138) d_M_judge_137 rfl (by decide) ?_
      refine r_istore (pc2 := 140) d_M_judge_138 rfl (Nat.le_of_ble_eq_true rfl) ?_
      refine r_iload (pc2 := 142) d_M_judge_140 rfl rfl ?_
      refine q_if_ge (tgt := 152) (A := (-1 : Int)) (pc2 := 145) d_M_judge_142 rfl rfl (by decide) (fun c3 => ?_) (fun c3 => ?_)
      · exfalso; omega
      have hno : (fun k => (pJ (I 762) nP (L 779 (40 * s + 2 * k))).isNone) k = true := by show (pJ _ _ _).isNone = true; unfold pJ; rw [if_neg (by omega)]; rfl
      refine r_aload_n (x := some 761) (pc2 := 146) d_M_judge_145 rfl rfl ?_
      refine r_bipush (v := (-35 : Int32)) (pc2 := 148) d_M_judge_146 rfl (by decide) ?_
      refine q_callv (M2 := mi_M_refused) (pc2 := 151) d_M_judge_148 rfl k_M_106 cm_M_refused cv_M_refused (sh_761 hS) (by decide) rfl rfl rfl (Nat.le_of_ble_eq_true rfl) (c_M_refused_3 (I := J) hS hR) (d2 := d - 1) (by omega) (Nat.le_of_eq (Nat.zero_add _)) (Nat.le_of_eq (Nat.zero_add _)) ?_
      obtain ⟨I4, hI4⟩ : ∃ x, x = u2 J 765 3 (J 765 3 + nI 1) := ⟨_, rfl⟩
      rw [← hI4]
      refine Run.ret (some (.int ((-35 : Int32)))) d_M_judge_151 ⟨_, rfl⟩ ?_
      exact hb J _ (by rw [setR_self] at v0_; exact v0_) ⟨k, by omega, hno⟩ hI4
    · refine r_aload_n (x := some 761) (pc2 := 128) d_M_judge_127 rfl rfl ?_
      refine r_lload (pc2 := 130) d_M_judge_128 rfl rfl ?_
      refine r_l2i (pc2 := 131) d_M_judge_130 rfl ?_
      refine q_callv (M2 := mi_M_personBy) (pc2 := 134) d_M_judge_131 rfl k_M_204 cm_M_personBy cv_M_personBy (sh_761 hS) (by decide) rfl rfl rfl (Nat.le_of_ble_eq_true rfl) (c_M_personBy (I := J) (nP := nP) (key := (L 779 (40 * s + 2 * k)).toInt32) hS hR ((congrFun hGJ _).trans (hPc)) hP24 (by omega)) (d2 := d - 1) (by omega) (Nat.le_of_eq (Nat.zero_add _)) (Nat.le_of_eq (Nat.zero_add _)) ?_
      refine q_top (y := vo (pB (I 762) nP ((L 779 (40 * s + 2 * k)).toInt32))) (by rw [hGJ]) ?_
      cases hopk : pB (I 762) nP ((L 779 (40 * s + 2 * k)).toInt32) with
      | none =>
        refine r_goto (tgt := 138) d_M_judge_134 rfl ?_
        refine r_istore (pc2 := 140) d_M_judge_138 rfl (Nat.le_of_ble_eq_true rfl) ?_
        refine r_iload (pc2 := 142) d_M_judge_140 rfl rfl ?_
        refine q_if_ge (tgt := 152) (A := (-1 : Int)) (pc2 := 145) d_M_judge_142 rfl rfl (by decide) (fun c5 => ?_) (fun c5 => ?_)
        · exfalso; omega
        have hno : (fun k => (pJ (I 762) nP (L 779 (40 * s + 2 * k))).isNone) k = true := by show (pJ _ _ _).isNone = true; unfold pJ; rw [if_pos (by omega), hopk]; rfl
        refine r_aload_n (x := some 761) (pc2 := 146) d_M_judge_145 rfl rfl ?_
        refine r_bipush (v := (-35 : Int32)) (pc2 := 148) d_M_judge_146 rfl (by decide) ?_
        refine q_callv (M2 := mi_M_refused) (pc2 := 151) d_M_judge_148 rfl k_M_106 cm_M_refused cv_M_refused (sh_761 hS) (by decide) rfl rfl rfl (Nat.le_of_ble_eq_true rfl) (c_M_refused_3 (I := J) hS hR) (d2 := d - 1) (by omega) (Nat.le_of_eq (Nat.zero_add _)) (Nat.le_of_eq (Nat.zero_add _)) ?_
        obtain ⟨I6, hI6⟩ : ∃ x, x = u2 J 765 3 (J 765 3 + nI 1) := ⟨_, rfl⟩
        rw [← hI6]
        refine Run.ret (some (.int ((-35 : Int32)))) d_M_judge_151 ⟨_, rfl⟩ ?_
        exact hb J _ (by rw [setR_self] at v0_; exact v0_) ⟨k, by omega, hno⟩ hI6
      | some pk =>
        obtain ⟨hppk, hqpk, -⟩ := fst1_spec (show fst1 _ _ = some pk from hopk)
        refine r_goto (tgt := 138) d_M_judge_134 rfl ?_
        refine r_istore (pc2 := 140) d_M_judge_138 rfl (Nat.le_of_ble_eq_true rfl) ?_
        refine r_iload (pc2 := 142) d_M_judge_140 rfl rfl ?_
        refine q_if_ge (tgt := 152) (A := ((pk : Nat) : Int)) (pc2 := 145) d_M_judge_142 rfl rfl (nI_toInt (by omega)) (fun c7 => ?_) (fun c7 => ?_)
        rotate_left
        · exfalso; omega
        have hso3 : pJ (I 762) nP (L 779 (40 * s + 2 * k)) = some pk := by unfold pJ; rw [if_pos (by omega), hopk]
        refine r_aload_n (x := some 761) (pc2 := 153) d_M_judge_152 rfl rfl ?_
        refine r_iload_n (pc2 := 154) d_M_judge_153 rfl rfl ?_
        refine r_iload (pc2 := 156) d_M_judge_154 rfl rfl ?_
        refine r_callv (M2 := mi_M_fresh) (pc2 := 159) d_M_judge_156 rfl k_M_201 cm_M_fresh cv_M_fresh (sh_761 hS) (by decide) rfl rfl rfl (Nat.le_of_ble_eq_true rfl) (c_M_freshG hS hR hT hTn hV hnt hnk (G := (I 762)) hW hrk (p := pk) (by omega) (F := F) (by omega) (J := J) v0_ (d := d - 1) (by omega)) (d2 := d - 1) (by omega) (Nat.le_of_eq (Nat.zero_add _)) (Nat.le_of_eq (Nat.zero_add _)) (fun r2 h2 hq2 => ?_)
        obtain ⟨K8, rfl, rfl, hAK8, haK8, hbK8, hcK8⟩ := hq2
        change Run _ _ _ _ _ _ [.int ((AN (TRE I kA fA cA gA) (I 762) pk F).1)] _ _
        have hK8 : FrS (setR I 762 (I 762)) K8 := v0_.tr hAK8.s
        have hGK8 := hK8.row2
        refine r_i2l (pc2 := 160) d_M_judge_159 rfl ?_
        refine r_aload_n (x := some 761) (pc2 := 161) d_M_judge_160 rfl rfl ?_
        refine q_getR (x := some 779) (pc2 := 164) d_M_judge_161 rfl k_M_61 rfl (sh_761 hS) (rf_761_29 hR) ?_
        refine r_bipush (v := nI 40) (pc2 := 166) d_M_judge_164 rfl (by decide) ?_
        refine r_iload_n (pc2 := 167) d_M_judge_166 rfl rfl ?_
        refine q_imulN (pc2 := 168) d_M_judge_167 rfl ?_
        refine r_iconst (v := nI 2) (pc2 := 169) d_M_judge_168 rfl (by decide) ?_
        refine r_iload (pc2 := 171) d_M_judge_169 rfl rfl ?_
        refine q_imulN (pc2 := 172) d_M_judge_171 rfl ?_
        refine q_iaddN (pc2 := 173) d_M_judge_172 rfl ?_
        refine r_iconst (v := nI 1) (pc2 := 174) d_M_judge_173 rfl (by decide) ?_
        refine q_iaddN (pc2 := 175) d_M_judge_174 rfl ?_
        refine q_laload (q := 40 * s + 2 * k + 1) (x := L 779 (40 * s + 2 * k + 1)) (pc2 := 176) d_M_judge_175 rfl (sh_779 hS) (nI_toInt (by omega)) (by omega) rfl ?_
        refine r_lcmp (pc2 := 177) d_M_judge_176 rfl ?_
        refine q_lif_eq (tgt := 185) (A := ((AN (TRE I kA fA cA gA) (I 762) pk F).1).toInt) (B := (L 779 (40 * s + 2 * k + 1)).toInt) (pc2 := 180) d_M_judge_177 rfl rfl (toInt64_toInt (rfl)) (rfl) (fun c9 => ?_) (fun c9 => ?_)
        · refine r_iload (pc2 := 187) d_M_judge_185 rfl rfl ?_
          have hjp : jP (TRE I kA fA cA gA) (I 762) nP F (L 779) (40 * s) k = false := by unfold jP; rw [hso3]; exact decide_eq_false (by omega)
          refine q_top (y := vo (fstF (jP (TRE I kA fA cA gA) (I 762) nP F (L 779) (40 * s)) k n)) (by rw [fstF_f hjp]) ?_
          refine r_istore (pc2 := 189) d_M_judge_187 rfl (Nat.le_of_ble_eq_true rfl) ?_
          refine r_iinc (v := nI k - nI 1) (pc2 := 192) d_M_judge_189 rfl rfl nI_pred2 (Nat.le_of_ble_eq_true rfl) ?_
          refine r_goto (tgt := 94) d_M_judge_192 rfl ?_
          refine Run.sub (l2 := [(0, .ref 761), (1, .int (nI F)), (2, .int (nI s)), (3, .int (nI n)), (4, .int (vo (fstF (jP (TRE I kA fA cA gA) (I 762) nP F (L 779) (40 * s)) k n))), (5, .int (nI k - nI 1))]) ⟨rfl, rfl, rfl, rfl, rfl, rfl, trivial⟩ ?_
          exact ih_ (k) (by omega) k K8 rfl (hK8) (fun j h1 h2 => by
            by_cases e : j = k
            · subst e; rw [hso3]; rfl
            · exact v1_ j (by omega) h2) (by omega)
        · refine r_iload (pc2 := 182) d_M_judge_180 rfl rfl ?_
          refine r_goto (tgt := 187) d_M_judge_182 rfl ?_
          have hjp : jP (TRE I kA fA cA gA) (I 762) nP F (L 779) (40 * s) k = true := by unfold jP; rw [hso3]; exact decide_eq_true (by omega)
          refine q_top (y := vo (fstF (jP (TRE I kA fA cA gA) (I 762) nP F (L 779) (40 * s)) k n)) (by rw [fstF_t hjp (by omega)]; rfl) ?_
          refine r_istore (pc2 := 189) d_M_judge_187 rfl (Nat.le_of_ble_eq_true rfl) ?_
          refine r_iinc (v := nI k - nI 1) (pc2 := 192) d_M_judge_189 rfl rfl nI_pred2 (Nat.le_of_ble_eq_true rfl) ?_
          refine r_goto (tgt := 94) d_M_judge_192 rfl ?_
          refine Run.sub (l2 := [(0, .ref 761), (1, .int (nI F)), (2, .int (nI s)), (3, .int (nI n)), (4, .int (vo (fstF (jP (TRE I kA fA cA gA) (I 762) nP F (L 779) (40 * s)) k n))), (5, .int (nI k - nI 1))]) ⟨rfl, rfl, rfl, rfl, rfl, rfl, trivial⟩ ?_
          exact ih_ (k) (by omega) k K8 rfl (hK8) (fun j h1 h2 => by
            by_cases e : j = k
            · subst e; rw [hso3]; rfl
            · exact v1_ j (by omega) h2) (by omega)
theorem c_M_judge {d : Nat} {I : Nat → Nat → Int32} {R : Nat → Nat → Option Nat} {L : Nat → Nat → Int64} {sh : Nat → Nat × Nat} {N : Nat} (hS : ShOK sh) (hR : RfOK R) {kA fA cA gA nk nt : Nat} (hT : TRf R sh kA fA cA gA nk) (hTn : TNe kA fA cA gA) (hV : TV (I kA) (I fA) (I cA) nt) (hnt : nt ≤ nk) (hnk : nk ≤ 1000000) {nP nF : Nat} (hW : WFA (I 762) nP nF nt) {rk : Nat → Nat} (hrk : RK (I 762) nF rk) {f : Int32} {s : Int32} {n : Int32} (hWS : WSH I (I kA) nt) (hd : nt + 60 ≤ d) : Mt mi_M_judge d 0 0 [.ref 761, .int f, .int s, .int n] (I, R, L, sh, N) (RQ I R L sh N (o_judge (TRE I kA fA cA gA) (I 762) nP nF (I 777) (I 778) (L 779) f s n)) := by
  obtain ⟨hPc, hP24, hFc, hF12, hWF, hWP⟩ := id hW
  obtain ⟨hn1, hn2, hn3, hn4⟩ := id hTn
  refine Mt.of pn_M (Nat.le_of_ble_eq_true rfl) ?_
  show Run mi_M_judge d 0 0 0 [(0, .ref 761), (1, .int f), (2, .int s), (3, .int n)] [] (I, R, L, sh, N) _
  refine r_aload_n (x := some 761) (pc2 := 1) d_M_judge_0 rfl rfl ?_
  refine r_iload_n (pc2 := 2) d_M_judge_1 rfl rfl ?_
  refine q_callv (M2 := mi_M_isFeature) (pc2 := 5) d_M_judge_2 rfl k_M_72 cm_M_isFeature cv_M_isFeature (sh_761 hS) (by decide) rfl rfl rfl (Nat.le_of_ble_eq_true rfl) (c_M_isFeature (I := I) (nF := nF) (f := f) hS hR (hFc) hF12 (by omega)) (d2 := d - 1) (by omega) (Nat.le_of_eq (Nat.zero_add _)) (Nat.le_of_eq (Nat.zero_add _)) ?_
  refine q_bif_eq (tgt := 27) (pc2 := 8) d_M_judge_5 rfl rfl (fun c1 => ?_) (fun c1 => ?_)
  · refine r_aload_n (x := some 761) (pc2 := 28) d_M_judge_27 rfl rfl ?_
    refine r_bipush (v := (-32 : Int32)) (pc2 := 30) d_M_judge_28 rfl (by decide) ?_
    refine q_callv (M2 := mi_M_refused) (pc2 := 33) d_M_judge_30 rfl k_M_106 cm_M_refused cv_M_refused (sh_761 hS) (by decide) rfl rfl rfl (Nat.le_of_ble_eq_true rfl) (c_M_refused_0 (I := I) hS hR) (d2 := d - 1) (by omega) (Nat.le_of_eq (Nat.zero_add _)) (Nat.le_of_eq (Nat.zero_add _)) ?_
    obtain ⟨I2, hI2⟩ : ∃ x, x = u2 I 765 0 (I 765 0 + nI 1) := ⟨_, rfl⟩
    rw [← hI2]
    refine Run.ret (some (.int ((-32 : Int32)))) d_M_judge_33 ⟨_, rfl⟩ ?_
    exact RQ.bad 0 (by (unfold o_judge); (try dsimp only); (try simp only [Int.toNat_natCast]); (repeat (first | rw [if_pos (by omega)] | rw [if_neg (by omega)])); (try rfl); (all_goals first | rfl | (congr 2 <;> omega) | ((repeat' split) <;> first | rfl | (exfalso; omega) | (congr 2 <;> omega) | skip)); (try rfl)) (by decide) FrS.rf hI2
  · obtain ⟨fN, hfN, rfl, efN⟩ := nat_of c1
    obtain ⟨tpfN, klfN, skfN, fbfN, nRfN, nNfN, nOfN, frfN, tofN, ⟨a0fN, b0fN, cc0fN, dd0fN⟩, ⟨a1fN, b1fN, cc1fN, dd1fN⟩, ⟨a2fN, b2fN, cc2fN, dd2fN⟩, ⟨a3fN, b3fN, cc3fN, dd3fN⟩, ⟨a4fN, b4fN, cc4fN, dd4fN⟩, ⟨a5fN, b5fN, cc5fN, dd5fN⟩, ⟨a6fN, b6fN, cc6fN, dd6fN⟩, ⟨a8fN, b8fN, cc8fN, dd8fN⟩, ⟨a9fN, b9fN, cc9fN, dd9fN⟩⟩ := wfn (hWF fN hfN)
    obtain ⟨-, -, -, -, -, -, -, w7fN, -, -, wNfN, wRfN, wKfN, wOfN⟩ := hWF fN hfN
    refine r_iload_n (pc2 := 9) d_M_judge_8 rfl rfl ?_
    refine q_calls (M2 := mi_M_isShelf) (pc2 := 12) d_M_judge_9 rfl k_M_288 cm_M_isShelf cs_M_isShelf rfl rfl (Nat.le_of_ble_eq_true rfl) (c_M_isShelf (s := s) (by omega)) (d2 := d - 1) (by omega) (Nat.le_of_eq (Nat.zero_add _)) (Nat.le_of_eq (Nat.zero_add _)) ?_
    refine q_bif_eq (tgt := 27) (pc2 := 15) d_M_judge_12 rfl rfl (fun c3 => ?_) (fun c3 => ?_)
    · refine r_aload_n (x := some 761) (pc2 := 28) d_M_judge_27 rfl rfl ?_
      refine r_bipush (v := (-32 : Int32)) (pc2 := 30) d_M_judge_28 rfl (by decide) ?_
      refine q_callv (M2 := mi_M_refused) (pc2 := 33) d_M_judge_30 rfl k_M_106 cm_M_refused cv_M_refused (sh_761 hS) (by decide) rfl rfl rfl (Nat.le_of_ble_eq_true rfl) (c_M_refused_0 (I := I) hS hR) (d2 := d - 1) (by omega) (Nat.le_of_eq (Nat.zero_add _)) (Nat.le_of_eq (Nat.zero_add _)) ?_
      obtain ⟨I4, hI4⟩ : ∃ x, x = u2 I 765 0 (I 765 0 + nI 1) := ⟨_, rfl⟩
      rw [← hI4]
      refine Run.ret (some (.int ((-32 : Int32)))) d_M_judge_33 ⟨_, rfl⟩ ?_
      exact RQ.bad 0 (by (try simp only [efN, b0fN, b1fN, b2fN, b3fN, b4fN, b5fN, b6fN, b8fN, b9fN, Int.toNat_natCast] at c1 c3); (unfold o_judge); (try dsimp only); (try simp only [efN, b0fN, b1fN, b2fN, b3fN, b4fN, b5fN, b6fN, b8fN, b9fN, Int.toNat_natCast]); (repeat (first | rw [if_pos (by omega)] | rw [if_neg (by omega)])); (try rfl); (all_goals first | rfl | (simp only [a0fN, a1fN, a2fN, a3fN, a4fN, a5fN, a6fN, a8fN, a9fN]; done) | (congr 2 <;> omega) | ((repeat' split) <;> first | rfl | (simp only [a0fN, a1fN, a2fN, a3fN, a4fN, a5fN, a6fN, a8fN, a9fN]; done) | (exfalso; omega) | (congr 2 <;> omega) | skip)); (try rfl)) (by decide) FrS.rf hI4
    · obtain ⟨sN, hsN, gsN, rfl, esN⟩ := nat_of' (Int.le_refl 0) c3
      obtain ⟨hsosN, szsN, hszsN, hzlsN⟩ := hWS sN (by omega)
      have hztsN : (I 778 sN).toInt = (szsN : Int) := by rw [hszsN, nI_toInt (by omega)]
      refine r_iload_n (pc2 := 16) d_M_judge_15 rfl rfl ?_
      refine r_i2l (pc2 := 17) d_M_judge_16 rfl ?_
      refine r_lconst (v := (0 : Int64)) (pc2 := 18) d_M_judge_17 rfl (by decide) ?_
      refine r_ldc2 (pc2 := 21) d_M_judge_18 rfl k_M_313 ?_
      refine q_calls (M2 := mi_M_in) (pc2 := 24) d_M_judge_21 rfl k_M_68 cm_M_in cs_M_in rfl rfl (Nat.le_of_ble_eq_true rfl) (c_M_in (A := n.toInt) (B := (0 : Int)) (C := (20 : Int)) (toInt64_toInt (rfl)) (by decide) (by decide)) (d2 := d - 1) (by omega) (Nat.le_of_eq (Nat.zero_add _)) (Nat.le_of_eq (Nat.zero_add _)) ?_
      refine q_bif_ne (tgt := 34) (pc2 := 27) d_M_judge_24 rfl rfl (fun c5 => ?_) (fun c5 => ?_)
      · obtain ⟨nN, hnN, gnN, rfl, enN⟩ := nat_of' (show (0 : Int) ≤ (0 : Int) by decide) c5
        refine r_aload_n (x := some 761) (pc2 := 35) d_M_judge_34 rfl rfl ?_
        refine q_getR (x := some 777) (pc2 := 38) d_M_judge_35 rfl k_M_55 rfl (sh_761 hS) (rf_761_27 hR) ?_
        refine r_iload_n (pc2 := 39) d_M_judge_38 rfl rfl ?_
        refine q_iaload (q := sN) (x := I 777 sN) (pc2 := 40) d_M_judge_39 rfl (sh_777 hS) (nI_toInt (by omega)) (by omega) rfl ?_
        refine r_iconst (v := nI 4) (pc2 := 41) d_M_judge_40 rfl (by decide) ?_
        refine q_icmp_le (tgt := 51) (A := (I 777 sN).toInt) (B := (4 : Int)) (pc2 := 44) d_M_judge_41 rfl rfl (rfl) (nI_toInt (by omega)) (fun c6 => ?_) (fun c6 => ?_)
        · refine r_aload_n (x := some 761) (pc2 := 52) d_M_judge_51 rfl rfl ?_
          refine q_getR (x := some 777) (pc2 := 55) d_M_judge_52 rfl k_M_55 rfl (sh_761 hS) (rf_761_27 hR) ?_
          refine r_iload_n (pc2 := 56) d_M_judge_55 rfl rfl ?_
          refine q_iaload (q := sN) (x := I 777 sN) (pc2 := 57) d_M_judge_56 rfl (sh_777 hS) (nI_toInt (by omega)) (by omega) rfl ?_
          refine q_if_ge (tgt := 67) (A := (I 777 sN).toInt) (pc2 := 60) d_M_judge_57 rfl rfl (rfl) (fun c7 => ?_) (fun c7 => ?_)
          · refine r_iconst (v := nI 2) (pc2 := 68) d_M_judge_67 rfl (by decide) ?_
            refine r_iload_n (pc2 := 69) d_M_judge_68 rfl rfl ?_
            refine q_imulN (pc2 := 70) d_M_judge_69 rfl ?_
            refine r_aload_n (x := some 761) (pc2 := 71) d_M_judge_70 rfl rfl ?_
            refine q_getR (x := some 778) (pc2 := 74) d_M_judge_71 rfl k_M_58 rfl (sh_761 hS) (rf_761_28 hR) ?_
            refine r_iload_n (pc2 := 75) d_M_judge_74 rfl rfl ?_
            refine q_iaload (q := sN) (x := nI szsN) (pc2 := 76) d_M_judge_75 rfl (sh_778 hS) (nI_toInt (by omega)) (by omega) hszsN ?_
            refine q_icmp_le (tgt := 86) (A := ((2 * nN : Nat) : Int)) (B := ((szsN : Nat) : Int)) (pc2 := 79) d_M_judge_76 rfl rfl (nI_toInt (by omega)) (nI_toInt (by omega)) (fun c8 => ?_) (fun c8 => ?_)
            · refine r_iconst (v := (-1 : Int32)) (pc2 := 87) d_M_judge_86 rfl (by decide) ?_
              refine r_istore (pc2 := 89) d_M_judge_87 rfl (Nat.le_of_ble_eq_true rfl) ?_
              refine r_iload_n (pc2 := 90) d_M_judge_89 rfl rfl ?_
              refine r_iconst (v := nI 1) (pc2 := 91) d_M_judge_90 rfl (by decide) ?_
              refine r_isub (pc2 := 92) d_M_judge_91 rfl ?_
              refine r_istore (pc2 := 94) d_M_judge_92 rfl (Nat.le_of_ble_eq_true rfl) ?_
              refine Run.sub (l2 := [(0, .ref 761), (1, .int (nI fN)), (2, .int (nI sN)), (3, .int (nI nN)), (4, .int (vo (fstF (jP (TRE I kA fA cA gA) (I 762) nP fN (L 779) (40 * sN)) nN nN))), (5, .int (nI nN - nI 1))]) ⟨rfl, rfl, rfl, rfl, by rw [fstF_n]; rfl, rfl, trivial⟩ ?_
              refine l_M_judge hS hR hT hTn hV hnt hnk hW hrk (F := fN) (s := sN) (n := nN) (by omega) (by omega) (by omega) (fun J K hJ hk hK => ?_) (fun J hJ hall => ?_) (by omega) _ nN I rfl FrS.rf.set (fun j h1 h2 => absurd h1 (by omega)) (Nat.le_refl _)
              · obtain ⟨k, hk1, hk2⟩ := hk
                obtain ⟨kx, hkx⟩ := fst1_ex (P := fun k => (pJ (I 762) nP (L 779 (40 * sN + 2 * k))).isNone) hk2 hk1
                exact RQ.bad 3 (by (try simp only [efN, b0fN, b1fN, b2fN, b3fN, b4fN, b5fN, b6fN, b8fN, b9fN, esN, hztsN, enN, Int.toNat_natCast] at c1 c3 c5 c6 c7 c8); (unfold o_judge); (try dsimp only); (try simp only [efN, b0fN, b1fN, b2fN, b3fN, b4fN, b5fN, b6fN, b8fN, b9fN, esN, hztsN, enN, Int.toNat_natCast]); (repeat (first | rw [if_pos (by omega)] | rw [if_neg (by omega)] | (rw [hkx]; try dsimp only))); (try rfl); (all_goals first | rfl | (simp only [a0fN, a1fN, a2fN, a3fN, a4fN, a5fN, a6fN, a8fN, a9fN]; done) | (congr 2 <;> omega) | ((repeat' split) <;> first | rfl | (simp only [a0fN, a1fN, a2fN, a3fN, a4fN, a5fN, a6fN, a8fN, a9fN]; done) | (exfalso; omega) | (congr 2 <;> omega) | skip))) (by decide) hJ hK
              · have hkn : fst1 (fun k => (pJ (I 762) nP (L 779 (40 * sN + 2 * k))).isNone) nN = none := fst1_none hall
                exact RQ.val (by (try simp only [efN, b0fN, b1fN, b2fN, b3fN, b4fN, b5fN, b6fN, b8fN, b9fN, esN, hztsN, enN, Int.toNat_natCast] at c1 c3 c5 c6 c7 c8); (unfold o_judge); (try dsimp only); (try simp only [efN, b0fN, b1fN, b2fN, b3fN, b4fN, b5fN, b6fN, b8fN, b9fN, esN, hztsN, enN, Int.toNat_natCast]); (repeat (first | rw [if_pos (by omega)] | rw [if_neg (by omega)] | (rw [hkn]; try dsimp only))); (try rfl); (all_goals first | rfl | (simp only [a0fN, a1fN, a2fN, a3fN, a4fN, a5fN, a6fN, a8fN, a9fN]; done) | (congr 2 <;> omega) | ((repeat' split) <;> first | rfl | (simp only [a0fN, a1fN, a2fN, a3fN, a4fN, a5fN, a6fN, a8fN, a9fN]; done) | (exfalso; omega) | (congr 2 <;> omega) | skip))) hJ
            · refine r_aload_n (x := some 761) (pc2 := 80) d_M_judge_79 rfl rfl ?_
              refine r_bipush (v := (-32 : Int32)) (pc2 := 82) d_M_judge_80 rfl (by decide) ?_
              refine q_callv (M2 := mi_M_refused) (pc2 := 85) d_M_judge_82 rfl k_M_106 cm_M_refused cv_M_refused (sh_761 hS) (by decide) rfl rfl rfl (Nat.le_of_ble_eq_true rfl) (c_M_refused_0 (I := I) hS hR) (d2 := d - 1) (by omega) (Nat.le_of_eq (Nat.zero_add _)) (Nat.le_of_eq (Nat.zero_add _)) ?_
              obtain ⟨I9, hI9⟩ : ∃ x, x = u2 I 765 0 (I 765 0 + nI 1) := ⟨_, rfl⟩
              rw [← hI9]
              refine Run.ret (some (.int ((-32 : Int32)))) d_M_judge_85 ⟨_, rfl⟩ ?_
              exact RQ.bad 0 (by (try simp only [efN, b0fN, b1fN, b2fN, b3fN, b4fN, b5fN, b6fN, b8fN, b9fN, esN, hztsN, enN, Int.toNat_natCast] at c1 c3 c5 c6 c7 c8); (unfold o_judge); (try dsimp only); (try simp only [efN, b0fN, b1fN, b2fN, b3fN, b4fN, b5fN, b6fN, b8fN, b9fN, esN, hztsN, enN, Int.toNat_natCast]); (repeat (first | rw [if_pos (by omega)] | rw [if_neg (by omega)])); (try rfl); (all_goals first | rfl | (simp only [a0fN, a1fN, a2fN, a3fN, a4fN, a5fN, a6fN, a8fN, a9fN]; done) | (congr 2 <;> omega) | ((repeat' split) <;> first | rfl | (simp only [a0fN, a1fN, a2fN, a3fN, a4fN, a5fN, a6fN, a8fN, a9fN]; done) | (exfalso; omega) | (congr 2 <;> omega) | skip)); (try rfl)) (by decide) FrS.rf hI9
          · refine r_aload_n (x := some 761) (pc2 := 61) d_M_judge_60 rfl rfl ?_
            refine r_bipush (v := (-34 : Int32)) (pc2 := 63) d_M_judge_61 rfl (by decide) ?_
            refine q_callv (M2 := mi_M_refused) (pc2 := 66) d_M_judge_63 rfl k_M_106 cm_M_refused cv_M_refused (sh_761 hS) (by decide) rfl rfl rfl (Nat.le_of_ble_eq_true rfl) (c_M_refused_2 (I := I) hS hR) (d2 := d - 1) (by omega) (Nat.le_of_eq (Nat.zero_add _)) (Nat.le_of_eq (Nat.zero_add _)) ?_
            obtain ⟨I10, hI10⟩ : ∃ x, x = u2 I 765 2 (I 765 2 + nI 1) := ⟨_, rfl⟩
            rw [← hI10]
            refine Run.ret (some (.int ((-34 : Int32)))) d_M_judge_66 ⟨_, rfl⟩ ?_
            exact RQ.bad 2 (by (try simp only [efN, b0fN, b1fN, b2fN, b3fN, b4fN, b5fN, b6fN, b8fN, b9fN, esN, hztsN, enN, Int.toNat_natCast] at c1 c3 c5 c6 c7); (unfold o_judge); (try dsimp only); (try simp only [efN, b0fN, b1fN, b2fN, b3fN, b4fN, b5fN, b6fN, b8fN, b9fN, esN, hztsN, enN, Int.toNat_natCast]); (repeat (first | rw [if_pos (by omega)] | rw [if_neg (by omega)])); (try rfl); (all_goals first | rfl | (simp only [a0fN, a1fN, a2fN, a3fN, a4fN, a5fN, a6fN, a8fN, a9fN]; done) | (congr 2 <;> omega) | ((repeat' split) <;> first | rfl | (simp only [a0fN, a1fN, a2fN, a3fN, a4fN, a5fN, a6fN, a8fN, a9fN]; done) | (exfalso; omega) | (congr 2 <;> omega) | skip)); (try rfl)) (by decide) FrS.rf hI10
        · refine r_aload_n (x := some 761) (pc2 := 45) d_M_judge_44 rfl rfl ?_
          refine r_bipush (v := (-33 : Int32)) (pc2 := 47) d_M_judge_45 rfl (by decide) ?_
          refine q_callv (M2 := mi_M_refused) (pc2 := 50) d_M_judge_47 rfl k_M_106 cm_M_refused cv_M_refused (sh_761 hS) (by decide) rfl rfl rfl (Nat.le_of_ble_eq_true rfl) (c_M_refused_1 (I := I) hS hR) (d2 := d - 1) (by omega) (Nat.le_of_eq (Nat.zero_add _)) (Nat.le_of_eq (Nat.zero_add _)) ?_
          obtain ⟨I11, hI11⟩ : ∃ x, x = u2 I 765 1 (I 765 1 + nI 1) := ⟨_, rfl⟩
          rw [← hI11]
          refine Run.ret (some (.int ((-33 : Int32)))) d_M_judge_50 ⟨_, rfl⟩ ?_
          exact RQ.bad 1 (by (try simp only [efN, b0fN, b1fN, b2fN, b3fN, b4fN, b5fN, b6fN, b8fN, b9fN, esN, hztsN, enN, Int.toNat_natCast] at c1 c3 c5 c6); (unfold o_judge); (try dsimp only); (try simp only [efN, b0fN, b1fN, b2fN, b3fN, b4fN, b5fN, b6fN, b8fN, b9fN, esN, hztsN, enN, Int.toNat_natCast]); (repeat (first | rw [if_pos (by omega)] | rw [if_neg (by omega)])); (try rfl); (all_goals first | rfl | (simp only [a0fN, a1fN, a2fN, a3fN, a4fN, a5fN, a6fN, a8fN, a9fN]; done) | (congr 2 <;> omega) | ((repeat' split) <;> first | rfl | (simp only [a0fN, a1fN, a2fN, a3fN, a4fN, a5fN, a6fN, a8fN, a9fN]; done) | (exfalso; omega) | (congr 2 <;> omega) | skip)); (try rfl)) (by decide) FrS.rf hI11
      · refine r_aload_n (x := some 761) (pc2 := 28) d_M_judge_27 rfl rfl ?_
        refine r_bipush (v := (-32 : Int32)) (pc2 := 30) d_M_judge_28 rfl (by decide) ?_
        refine q_callv (M2 := mi_M_refused) (pc2 := 33) d_M_judge_30 rfl k_M_106 cm_M_refused cv_M_refused (sh_761 hS) (by decide) rfl rfl rfl (Nat.le_of_ble_eq_true rfl) (c_M_refused_0 (I := I) hS hR) (d2 := d - 1) (by omega) (Nat.le_of_eq (Nat.zero_add _)) (Nat.le_of_eq (Nat.zero_add _)) ?_
        obtain ⟨I12, hI12⟩ : ∃ x, x = u2 I 765 0 (I 765 0 + nI 1) := ⟨_, rfl⟩
        rw [← hI12]
        refine Run.ret (some (.int ((-32 : Int32)))) d_M_judge_33 ⟨_, rfl⟩ ?_
        exact RQ.bad 0 (by (try simp only [efN, b0fN, b1fN, b2fN, b3fN, b4fN, b5fN, b6fN, b8fN, b9fN, esN, hztsN, Int.toNat_natCast] at c1 c3 c5); (unfold o_judge); (try dsimp only); (try simp only [efN, b0fN, b1fN, b2fN, b3fN, b4fN, b5fN, b6fN, b8fN, b9fN, esN, hztsN, Int.toNat_natCast]); (repeat (first | rw [if_pos (by omega)] | rw [if_neg (by omega)])); (try rfl); (all_goals first | rfl | (simp only [a0fN, a1fN, a2fN, a3fN, a4fN, a5fN, a6fN, a8fN, a9fN]; done) | (congr 2 <;> omega) | ((repeat' split) <;> first | rfl | (simp only [a0fN, a1fN, a2fN, a3fN, a4fN, a5fN, a6fN, a8fN, a9fN]; done) | (exfalso; omega) | (congr 2 <;> omega) | skip)); (try rfl)) (by decide) FrS.rf hI12
