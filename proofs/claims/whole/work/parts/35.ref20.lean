/-! THE REFERENCE: days -/
theorem daysG_s {lc : Int32 → Int32} {dw : Int32 → Nat} {tr : Int32 → Nat → Nat → Bool} {nP nF m : Nat} {G : Nat → Int32} : daysG lc dw tr nP nF (m + 1) G = ((if (dayA lc dw tr nP nF G).1.toInt ≠ 0 then 1 else 0) + (daysG lc dw tr nP nF m (dayG lc dw tr nP nF G)).1, (daysG lc dw tr nP nF m (dayG lc dw tr nP nF G)).2) := rfl
theorem day3_eq {lc : Int32 → Int32} {dw : Int32 → Nat} {tr : Int32 → Nat → Nat → Bool} {nP nF : Nat} {G : Nat → Int32} : day3 lc dw tr nP nF G = day4 lc dw (g_ask (AN tr (day2 lc G) (dw (lc (lc (G 5))) % nP) (dw (lc (G 5)) % nF)) (day2 lc G) (dw (lc (G 5)) % nF) (dw (lc (lc (G 5))) % nP)) := rfl
theorem l_M_days {d : Nat} {I : Nat → Nat → Int32} {R : Nat → Nat → Option Nat} {L : Nat → Nat → Int64} {sh : Nat → Nat × Nat} {N : Nat} (hS : ShOK sh) (hR : RfOK R) {kA fA cA gA nk nt : Nat} (hT : TRf R sh kA fA cA gA nk) (hTn : TNe kA fA cA gA) (hV : TV (I kA) (I fA) (I cA) nt) (hnt : nt ≤ nk) (hnk : nk ≤ 1000000) {nP nF : Nat}  {rk : Nat → Nat} (hP0 : 0 < nP) (hF0 : 0 < nF) {n tot : Nat} {GE : Nat → Int32} {Q : Option Value → HS → Prop} (hq : ∀ K, FrS (setR I 762 GE) K → Q (some (.int (nI tot))) (K, R, L, sh, N)) (hn60 : n ≤ 60) (hd : nt + 50 ≤ d) : ∀ (n_ : Nat) (k : Nat) (on : Nat) (G : Nat → Int32) (J : Nat → Nat → Int32) (nS : Nat), n - k = n_ → (FrS (setR I 762 G) J) → (WFA G nP nF nt) → (RK G nF rk) → (WFT G nF nS) → (on + (daysG lcg dr (TRE I kA fA cA gA) nP nF (n - k) G).1 = tot) → ((daysG lcg dr (TRE I kA fA cA gA) nP nF (n - k) G).2 = GE) → (k ≤ n) → Run mi_M_days d 0 0 48 [(0, .ref 761), (1, .int (nI n)), (2, .int (nI on)), (3, .int (nI k))] [] (J, R, L, sh, N) Q := by
  intro n_
  induction n_ using Nat.strongRecOn with | ind n_ ih_ => ?_
  intro k on G J nS hn_ v0_ v1_ v2_ v3_ v4_ v5_ v6_
  have hGJ := v0_.row2
  obtain ⟨hPc, hP24, hFc, hF12, hWF, hWP⟩ := id v1_
  refine r_iload_n (pc2 := 49) d_M_days_48 rfl rfl ?_
  refine r_iload_n (pc2 := 50) d_M_days_49 rfl rfl ?_
  refine q_icmp_ge (tgt := 124) (A := ((k : Nat) : Int)) (B := ((n : Nat) : Int)) (pc2 := 53) d_M_days_50 rfl rfl (nI_toInt (by omega)) (nI_toInt (by omega)) (fun c1 => ?_) (fun c1 => ?_)
  · refine r_iload_n (pc2 := 125) d_M_days_124 rfl rfl ?_
    refine Run.ret (some (.int (nI on))) d_M_days_125 ⟨_, rfl⟩ ?_
    rw [show n - k = 0 by omega] at v4_ v5_
    rw [show on = tot from v4_]
    exact hq J (by rw [← v5_]; exact v0_)
  · obtain ⟨m, hm⟩ : ∃ m, n - k = m + 1 := ⟨n - k - 1, by omega⟩
    rw [hm, daysG_s] at v4_ v5_; dsimp only at v4_ v5_
    obtain ⟨ze1, ze2, ze3, ze4, ze5⟩ := day3_ok (lc := lcg) (dw := dr) (tr := (TRE I kA fA cA gA)) v1_ v2_ v3_ hP0 hF0
    have hday := day_ok (lc := lcg) (dw := dr) (tr := (TRE I kA fA cA gA)) v1_ v2_ v3_ hP0 hF0
    obtain ⟨q1, q2, q3, q4⟩ := dayS_ok ze3 ze4 ze5
    have hdg : dayG lcg dr (TRE I kA fA cA gA) nP nF G = dayS (day3 lcg dr (TRE I kA fA cA gA) nP nF G) := rfl
    rw [day3_eq] at ze3 ze4 ze5 q1 q2 q3 q4 hdg
    have hdA : dayA lcg dr (TRE I kA fA cA gA) nP nF G = AN (TRE I kA fA cA gA) (day2 lcg G) (dr (lcg (lcg (G 5))) % nP) (dr (lcg (G 5)) % nF) := rfl
    rw [hdA] at v4_
    have hf := Nat.mod_lt (dr (lcg (G 5))) hF0
    have hp := Nat.mod_lt (dr (lcg (lcg (G 5)))) hP0
    generalize hfx : dr (lcg (G 5)) % nF = f at *
    generalize hpx : dr (lcg (lcg (G 5))) % nP = p at *
    obtain ⟨D2, hD2⟩ : ∃ D2, D2 = day2 lcg G := ⟨_, rfl⟩
    rw [← hD2] at ze1 ze2 ze3 ze4 ze5 q1 q2 q3 q4 hdg v4_
    refine r_aload_n (x := some 761) (pc2 := 54) d_M_days_53 rfl rfl ?_
    refine r_aload_n (x := some 761) (pc2 := 55) d_M_days_54 rfl rfl ?_
    refine q_getR (x := some 762) (pc2 := 58) d_M_days_55 rfl k_M_9 rfl (sh_761 hS) (rf_761_0 hR) ?_
    refine r_iconst (v := nI 1) (pc2 := 59) d_M_days_58 rfl (by decide) ?_
    refine q_iaload (q := 1) (x := nI nF) (pc2 := 60) d_M_days_59 rfl (sh_762 hS) (nI_toInt (by omega)) (by omega) ((congrFun hGJ _).trans (hFc)) ?_
    refine q_callv (M2 := mi_M_draw) (pc2 := 63) d_M_days_60 rfl k_M_318 cm_M_draw cv_M_draw (sh_761 hS) (by decide) rfl rfl rfl (Nat.le_of_ble_eq_true rfl) (c_M_draw (I := J) hS hR (n := nF) (by omega) (by omega)) (d2 := d - 1) (by omega) (Nat.le_of_eq (Nat.zero_add _)) (Nat.le_of_eq (Nat.zero_add _)) ?_
    obtain ⟨I2, hI2⟩ : ∃ x, x = u2 J 762 5 (lcg (J 762 5)) := ⟨_, rfl⟩
    rw [← hI2]
    have e3 : J 762 5 = G 5 := congrFun hGJ _
    rw [e3] at hI2; rw [e3]
    rw [hfx]
    refine r_istore (pc2 := 65) d_M_days_63 rfl (Nat.le_of_ble_eq_true rfl) ?_
    refine r_iload_n (pc2 := 66) d_M_days_65 rfl rfl ?_
    refine r_aload_n (x := some 761) (pc2 := 67) d_M_days_66 rfl rfl ?_
    refine r_iload (pc2 := 69) d_M_days_67 rfl rfl ?_
    refine r_aload_n (x := some 761) (pc2 := 70) d_M_days_69 rfl rfl ?_
    refine r_aload_n (x := some 761) (pc2 := 71) d_M_days_70 rfl rfl ?_
    refine q_getR (x := some 762) (pc2 := 74) d_M_days_71 rfl k_M_9 rfl (sh_761 hS) (rf_761_0 hR) ?_
    refine r_iconst (v := nI 0) (pc2 := 75) d_M_days_74 rfl (by decide) ?_
    refine q_iaload (q := 0) (x := nI nP) (pc2 := 76) d_M_days_75 rfl (sh_762 hS) (nI_toInt (by omega)) (by omega) ((rd_nk hI2 (by decide)).trans ((congrFun hGJ _).trans (hPc))) ?_
    refine q_callv (M2 := mi_M_draw) (pc2 := 79) d_M_days_76 rfl k_M_318 cm_M_draw cv_M_draw (sh_761 hS) (by decide) rfl rfl rfl (Nat.le_of_ble_eq_true rfl) (c_M_draw (I := I2) hS hR (n := nP) (by omega) (by omega)) (d2 := d - 1) (by omega) (Nat.le_of_eq (Nat.zero_add _)) (Nat.le_of_eq (Nat.zero_add _)) ?_
    obtain ⟨I4, hI4⟩ : ∃ x, x = u2 I2 762 5 (lcg (I2 762 5)) := ⟨_, rfl⟩
    rw [← hI4]
    have e5 : I2 762 5 = lcg (G 5) := rd_eq hI2
    rw [e5] at hI4; rw [e5]
    rw [hpx]
    have fD2 : FrS (setR I 762 D2) I4 := by rw [hD2]; unfold day2; exact (setR_put (setR_put v0_ hI2) hI4)
    have rD2 := fD2.row2
    refine r_callv (M2 := mi_M_askTruly) (pc2 := 82) d_M_days_79 rfl k_M_207 cm_M_askTruly cv_M_askTruly (sh_761 hS) (by decide) rfl rfl rfl (Nat.le_of_ble_eq_true rfl) (c_M_askTrulyG hS hR hT hTn hV hnt hnk (G := D2) ze1 ze2 (p := p) (by omega) (F := f) (by omega) (J := I4) fD2 (d := d - 1) (by omega)) (d2 := d - 1) (by omega) (Nat.le_of_eq (Nat.zero_add _)) (Nat.le_of_eq (Nat.zero_add _)) (fun r2 h2 hq2 => ?_)
    obtain ⟨K6, rfl, rfl, hK6⟩ := hq2
    change Run _ _ _ _ _ _ [.int ((AN (TRE I kA fA cA gA) D2 p f).1), .int (nI on)] _ _
    have hGK6 := hK6.row2
    refine q_if_eq (tgt := 89) (A := ((AN (TRE I kA fA cA gA) D2 p f).1).toInt) (pc2 := 85) d_M_days_82 rfl rfl (rfl) (fun c7 => ?_) (fun c7 => ?_)
    · refine r_iconst (v := nI 0) (pc2 := 90) d_M_days_89 rfl (by decide) ?_
      refine q_iaddN (pc2 := 91) d_M_days_90 rfl ?_
      refine r_istore_n (pc2 := 92) d_M_days_91 rfl rfl (Nat.le_of_ble_eq_true rfl) ?_
      obtain ⟨D3, hD3⟩ : ∃ D3, D3 = g_ask (AN (TRE I kA fA cA gA) D2 p f) D2 f p := ⟨_, rfl⟩
      rw [← hD3] at ze3 ze4 ze5 q1 q2 q3 q4 hdg
      have fD3 : FrS (setR I 762 D3) K6 := by rw [hD3]; exact hK6
      have rD3 := fD3.row2
      refine r_aload_n (x := some 761) (pc2 := 93) d_M_days_92 rfl rfl ?_
      refine q_getR (x := some 762) (pc2 := 96) d_M_days_93 rfl k_M_9 rfl (sh_761 hS) (rf_761_0 hR) ?_
      refine r_iconst (v := nI 3) (pc2 := 97) d_M_days_96 rfl (by decide) ?_
      refine r_dup2 (pc2 := 98) d_M_days_97 rfl rfl rfl ?_
      refine q_iaload (q := 3) (x := D3 3) (pc2 := 99) d_M_days_98 rfl (sh_762 hS) (nI_toInt (by omega)) (by omega) (congrFun rD3 _) ?_
      refine r_aload_n (x := some 761) (pc2 := 100) d_M_days_99 rfl rfl ?_
      refine r_iconst (v := nI 4) (pc2 := 101) d_M_days_100 rfl (by decide) ?_
      refine q_callv (M2 := mi_M_draw) (pc2 := 104) d_M_days_101 rfl k_M_318 cm_M_draw cv_M_draw (sh_761 hS) (by decide) rfl rfl rfl (Nat.le_of_ble_eq_true rfl) (c_M_draw (I := K6) hS hR (n := 4) (by omega) (by omega)) (d2 := d - 1) (by omega) (Nat.le_of_eq (Nat.zero_add _)) (Nat.le_of_eq (Nat.zero_add _)) ?_
      obtain ⟨I8, hI8⟩ : ∃ x, x = u2 K6 762 5 (lcg (K6 762 5)) := ⟨_, rfl⟩
      rw [← hI8]
      have e9 : K6 762 5 = D3 5 := congrFun rD3 _
      rw [e9] at hI8; rw [e9]
      refine r_iadd (pc2 := 105) d_M_days_104 rfl ?_
      refine q_iastore (q := 3) (pc2 := 106) d_M_days_105 rfl (sh_762 hS) (nI_toInt (by omega)) (by omega) (fun I10 hI10 => ?_)
      obtain ⟨D4, hD4⟩ : ∃ D4, D4 = day4 lcg dr D3 := ⟨_, rfl⟩
      rw [← hD4] at ze3 ze4 ze5 q1 q2 q3 q4 hdg
      have fD4 : FrS (setR I 762 D4) I10 := by rw [hD4]; unfold day4; exact (setR_put (setR_put fD3 hI8) hI10)
      have rD4 := fD4.row2
      refine r_aload_n (x := some 761) (pc2 := 107) d_M_days_106 rfl rfl ?_
      refine r_aload_n (x := some 761) (pc2 := 108) d_M_days_107 rfl rfl ?_
      refine q_getR (x := some 762) (pc2 := 111) d_M_days_108 rfl k_M_9 rfl (sh_761 hS) (rf_761_0 hR) ?_
      refine r_iconst (v := nI 3) (pc2 := 112) d_M_days_111 rfl (by decide) ?_
      refine q_iaload (q := 3) (x := D4 3) (pc2 := 113) d_M_days_112 rfl (sh_762 hS) (nI_toInt (by omega)) (by omega) (congrFun rD4 _) ?_
      have hr12 : I10 762 = D4 := fD4.row2
      refine q_callv (M2 := mi_M_stepsTill) (pc2 := 116) d_M_days_113 rfl k_M_246 cm_M_stepsTill cv_M_stepsTill (sh_761 hS) (by decide) rfl rfl rfl (Nat.le_of_ble_eq_true rfl) (c_M_stepsTill (I := I10) hS hR (nS := nS) (t := D4 3) (by rw [hr12]; exact ze3) (by rw [hr12]; exact ze5) (by omega)) (d2 := d - 1) (by omega) (Nat.le_of_eq (Nat.zero_add _)) (Nat.le_of_eq (Nat.zero_add _)) ?_
      obtain ⟨K11, hK11⟩ : ∃ x, x = setR I10 762 (stI (D4 3) nS (I10 762)).2 := ⟨_, rfl⟩
      rw [← hK11]
      refine q_top (y := nI (stI (D4 3) nS D4).1) (by rw [hr12]) ?_
      have fK11 : FrS (setR I 762 (stI (D4 3) nS D4).2) K11 := by rw [hK11, hr12]; exact fD4.setR2
      have hGK11 := fK11.row2
      refine r_istore (pc2 := 118) d_M_days_116 rfl (Nat.le_of_ble_eq_true rfl) ?_
      refine q_iinc (b := 1) (pc2 := 121) d_M_days_118 rfl rfl (by decide) (Nat.le_of_ble_eq_true rfl) ?_
      refine r_goto (tgt := 48) d_M_days_121 rfl ?_
      have hfin : FrS (setR I 762 (dayG lcg dr (TRE I kA fA cA gA) nP nF G)) K11 := by rw [hdg, q4]; exact fK11
      rw [if_neg (fun z => z c7)] at v4_
      refine Run.sub (l2 := [(0, .ref 761), (1, .int (nI n)), (2, .int (nI (on + 0))), (3, .int (nI (k + 1)))]) ⟨rfl, rfl, rfl, rfl, trivial⟩ ?_
      exact ih_ (n - (k + 1)) (by omega) (k + 1) (on + 0) (dayG lcg dr (TRE I kA fA cA gA) nP nF G) K11 (nS - (stI (D4 3) nS D4).1) rfl (hfin) (by rw [hdg]; exact q1) (by rw [hdg]; exact q2) (by rw [hdg]; exact q3) (by rw [show n - (k + 1) = m by omega]; omega) (by rw [show n - (k + 1) = m by omega]; exact v5_) (by omega)
    · refine r_iconst (v := nI 1) (pc2 := 86) d_M_days_85 rfl (by decide) ?_
      refine r_goto (tgt := 90) d_M_days_86 rfl ?_
      refine q_iaddN (pc2 := 91) d_M_days_90 rfl ?_
      refine r_istore_n (pc2 := 92) d_M_days_91 rfl rfl (Nat.le_of_ble_eq_true rfl) ?_
      obtain ⟨D3, hD3⟩ : ∃ D3, D3 = g_ask (AN (TRE I kA fA cA gA) D2 p f) D2 f p := ⟨_, rfl⟩
      rw [← hD3] at ze3 ze4 ze5 q1 q2 q3 q4 hdg
      have fD3 : FrS (setR I 762 D3) K6 := by rw [hD3]; exact hK6
      have rD3 := fD3.row2
      refine r_aload_n (x := some 761) (pc2 := 93) d_M_days_92 rfl rfl ?_
      refine q_getR (x := some 762) (pc2 := 96) d_M_days_93 rfl k_M_9 rfl (sh_761 hS) (rf_761_0 hR) ?_
      refine r_iconst (v := nI 3) (pc2 := 97) d_M_days_96 rfl (by decide) ?_
      refine r_dup2 (pc2 := 98) d_M_days_97 rfl rfl rfl ?_
      refine q_iaload (q := 3) (x := D3 3) (pc2 := 99) d_M_days_98 rfl (sh_762 hS) (nI_toInt (by omega)) (by omega) (congrFun rD3 _) ?_
      refine r_aload_n (x := some 761) (pc2 := 100) d_M_days_99 rfl rfl ?_
      refine r_iconst (v := nI 4) (pc2 := 101) d_M_days_100 rfl (by decide) ?_
      refine q_callv (M2 := mi_M_draw) (pc2 := 104) d_M_days_101 rfl k_M_318 cm_M_draw cv_M_draw (sh_761 hS) (by decide) rfl rfl rfl (Nat.le_of_ble_eq_true rfl) (c_M_draw (I := K6) hS hR (n := 4) (by omega) (by omega)) (d2 := d - 1) (by omega) (Nat.le_of_eq (Nat.zero_add _)) (Nat.le_of_eq (Nat.zero_add _)) ?_
      obtain ⟨I13, hI13⟩ : ∃ x, x = u2 K6 762 5 (lcg (K6 762 5)) := ⟨_, rfl⟩
      rw [← hI13]
      have e14 : K6 762 5 = D3 5 := congrFun rD3 _
      rw [e14] at hI13; rw [e14]
      refine r_iadd (pc2 := 105) d_M_days_104 rfl ?_
      refine q_iastore (q := 3) (pc2 := 106) d_M_days_105 rfl (sh_762 hS) (nI_toInt (by omega)) (by omega) (fun I15 hI15 => ?_)
      obtain ⟨D4, hD4⟩ : ∃ D4, D4 = day4 lcg dr D3 := ⟨_, rfl⟩
      rw [← hD4] at ze3 ze4 ze5 q1 q2 q3 q4 hdg
      have fD4 : FrS (setR I 762 D4) I15 := by rw [hD4]; unfold day4; exact (setR_put (setR_put fD3 hI13) hI15)
      have rD4 := fD4.row2
      refine r_aload_n (x := some 761) (pc2 := 107) d_M_days_106 rfl rfl ?_
      refine r_aload_n (x := some 761) (pc2 := 108) d_M_days_107 rfl rfl ?_
      refine q_getR (x := some 762) (pc2 := 111) d_M_days_108 rfl k_M_9 rfl (sh_761 hS) (rf_761_0 hR) ?_
      refine r_iconst (v := nI 3) (pc2 := 112) d_M_days_111 rfl (by decide) ?_
      refine q_iaload (q := 3) (x := D4 3) (pc2 := 113) d_M_days_112 rfl (sh_762 hS) (nI_toInt (by omega)) (by omega) (congrFun rD4 _) ?_
      have hr17 : I15 762 = D4 := fD4.row2
      refine q_callv (M2 := mi_M_stepsTill) (pc2 := 116) d_M_days_113 rfl k_M_246 cm_M_stepsTill cv_M_stepsTill (sh_761 hS) (by decide) rfl rfl rfl (Nat.le_of_ble_eq_true rfl) (c_M_stepsTill (I := I15) hS hR (nS := nS) (t := D4 3) (by rw [hr17]; exact ze3) (by rw [hr17]; exact ze5) (by omega)) (d2 := d - 1) (by omega) (Nat.le_of_eq (Nat.zero_add _)) (Nat.le_of_eq (Nat.zero_add _)) ?_
      obtain ⟨K16, hK16⟩ : ∃ x, x = setR I15 762 (stI (D4 3) nS (I15 762)).2 := ⟨_, rfl⟩
      rw [← hK16]
      refine q_top (y := nI (stI (D4 3) nS D4).1) (by rw [hr17]) ?_
      have fK16 : FrS (setR I 762 (stI (D4 3) nS D4).2) K16 := by rw [hK16, hr17]; exact fD4.setR2
      have hGK16 := fK16.row2
      refine r_istore (pc2 := 118) d_M_days_116 rfl (Nat.le_of_ble_eq_true rfl) ?_
      refine q_iinc (b := 1) (pc2 := 121) d_M_days_118 rfl rfl (by decide) (Nat.le_of_ble_eq_true rfl) ?_
      refine r_goto (tgt := 48) d_M_days_121 rfl ?_
      have hfin : FrS (setR I 762 (dayG lcg dr (TRE I kA fA cA gA) nP nF G)) K16 := by rw [hdg, q4]; exact fK16
      rw [if_pos c7] at v4_
      refine Run.sub (l2 := [(0, .ref 761), (1, .int (nI n)), (2, .int (nI (on + 1))), (3, .int (nI (k + 1)))]) ⟨rfl, rfl, rfl, rfl, trivial⟩ ?_
      exact ih_ (n - (k + 1)) (by omega) (k + 1) (on + 1) (dayG lcg dr (TRE I kA fA cA gA) nP nF G) K16 (nS - (stI (D4 3) nS D4).1) rfl (hfin) (by rw [hdg]; exact q1) (by rw [hdg]; exact q2) (by rw [hdg]; exact q3) (by rw [show n - (k + 1) = m by omega]; omega) (by rw [show n - (k + 1) = m by omega]; exact v5_) (by omega)
theorem c_M_days {d : Nat} {I : Nat → Nat → Int32} {R : Nat → Nat → Option Nat} {L : Nat → Nat → Int64} {sh : Nat → Nat × Nat} {N : Nat} (hS : ShOK sh) (hR : RfOK R) {kA fA cA gA nk nt : Nat} (hT : TRf R sh kA fA cA gA nk) (hTn : TNe kA fA cA gA) (hV : TV (I kA) (I fA) (I cA) nt) (hnt : nt ≤ nk) (hnk : nk ≤ 1000000) {nP nF : Nat} (hW : WFA (I 762) nP nF nt) {rk : Nat → Nat} (hrk : RK (I 762) nF rk) {n : Int32} {nS : Nat} (hTt : WFT (I 762) nF nS) (hd : nt + 60 ≤ d) : Mt mi_M_days d 0 0 [.ref 761, .int n] (I, R, L, sh, N) (RQW I R L sh N (o_days (TRE I kA fA cA gA) (I 762) nP nF n) (g_days (TRE I kA fA cA gA) (I 762) nP nF n)) := by
  obtain ⟨hPc, hP24, hFc, hF12, hWF, hWP⟩ := id hW
  obtain ⟨hn1, hn2, hn3, hn4⟩ := id hTn
  refine Mt.of pn_M (Nat.le_of_ble_eq_true rfl) ?_
  show Run mi_M_days d 0 0 0 [(0, .ref 761), (1, .int n)] [] (I, R, L, sh, N) _
  refine r_iload_n (pc2 := 1) d_M_days_0 rfl rfl ?_
  refine r_i2l (pc2 := 2) d_M_days_1 rfl ?_
  refine r_lconst (v := (1 : Int64)) (pc2 := 3) d_M_days_2 rfl (by decide) ?_
  refine r_ldc2 (pc2 := 6) d_M_days_3 rfl k_M_316 ?_
  refine q_calls (M2 := mi_M_in) (pc2 := 9) d_M_days_6 rfl k_M_68 cm_M_in cs_M_in rfl rfl (Nat.le_of_ble_eq_true rfl) (c_M_in (A := n.toInt) (B := (1 : Int)) (C := (60 : Int)) (toInt64_toInt (rfl)) (by decide) (by decide)) (d2 := d - 1) (by omega) (Nat.le_of_eq (Nat.zero_add _)) (Nat.le_of_eq (Nat.zero_add _)) ?_
  refine q_bif_ne (tgt := 19) (pc2 := 12) d_M_days_9 rfl rfl (fun c1 => ?_) (fun c1 => ?_)
  · obtain ⟨nN, hnN, gnN, rfl, enN⟩ := nat_of' (show (0 : Int) ≤ (1 : Int) by decide) c1
    refine r_aload_n (x := some 761) (pc2 := 20) d_M_days_19 rfl rfl ?_
    refine q_getR (x := some 762) (pc2 := 23) d_M_days_20 rfl k_M_9 rfl (sh_761 hS) (rf_761_0 hR) ?_
    refine r_iconst (v := nI 1) (pc2 := 24) d_M_days_23 rfl (by decide) ?_
    refine q_iaload (q := 1) (x := nI nF) (pc2 := 25) d_M_days_24 rfl (sh_762 hS) (nI_toInt (by omega)) (by omega) hFc ?_
    refine q_if_eq (tgt := 37) (A := ((nF : Nat) : Int)) (pc2 := 28) d_M_days_25 rfl rfl (nI_toInt (by omega)) (fun c2 => ?_) (fun c2 => ?_)
    · refine r_aload_n (x := some 761) (pc2 := 38) d_M_days_37 rfl rfl ?_
      refine r_bipush (v := (-35 : Int32)) (pc2 := 40) d_M_days_38 rfl (by decide) ?_
      refine q_callv (M2 := mi_M_refused) (pc2 := 43) d_M_days_40 rfl k_M_106 cm_M_refused cv_M_refused (sh_761 hS) (by decide) rfl rfl rfl (Nat.le_of_ble_eq_true rfl) (c_M_refused_3 (I := I) hS hR) (d2 := d - 1) (by omega) (Nat.le_of_eq (Nat.zero_add _)) (Nat.le_of_eq (Nat.zero_add _)) ?_
      obtain ⟨I3, hI3⟩ : ∃ x, x = u2 I 765 3 (I 765 3 + nI 1) := ⟨_, rfl⟩
      rw [← hI3]
      refine Run.ret (some (.int ((-35 : Int32)))) d_M_days_43 ⟨_, rfl⟩ ?_
      exact RQW.bad 3 (by (try simp only [enN, Int.toNat_natCast] at c1 c2); (unfold o_days); (try dsimp only); (try simp only [enN, Int.toNat_natCast]); (repeat (first | rw [if_pos (by omega)] | rw [if_neg (by omega)])); (try rfl); (all_goals first | rfl | (congr 2; omega) | ((repeat' split) <;> first | rfl | (exfalso; omega) | (congr 2; omega) | skip)); (try rfl)) (by (try simp only [enN, Int.toNat_natCast] at c1 c2); (unfold g_days); (try dsimp only); (try simp only [enN, Int.toNat_natCast]); (repeat (first | rw [if_pos (by omega)] | rw [if_neg (by omega)])); (try rfl); (all_goals first | rfl | (congr 2; omega) | ((repeat' split) <;> first | rfl | (exfalso; omega) | (congr 2; omega) | skip)); (try rfl)) (by decide) FrS.rf hI3
    · refine r_aload_n (x := some 761) (pc2 := 29) d_M_days_28 rfl rfl ?_
      refine q_getR (x := some 762) (pc2 := 32) d_M_days_29 rfl k_M_9 rfl (sh_761 hS) (rf_761_0 hR) ?_
      refine r_iconst (v := nI 0) (pc2 := 33) d_M_days_32 rfl (by decide) ?_
      refine q_iaload (q := 0) (x := nI nP) (pc2 := 34) d_M_days_33 rfl (sh_762 hS) (nI_toInt (by omega)) (by omega) hPc ?_
      refine q_if_ne (tgt := 44) (A := ((nP : Nat) : Int)) (pc2 := 37) d_M_days_34 rfl rfl (nI_toInt (by omega)) (fun c4 => ?_) (fun c4 => ?_)
      · refine r_iconst (v := nI 0) (pc2 := 45) d_M_days_44 rfl (by decide) ?_
        refine r_istore_n (pc2 := 46) d_M_days_45 rfl rfl (Nat.le_of_ble_eq_true rfl) ?_
        refine r_iconst (v := nI 0) (pc2 := 47) d_M_days_46 rfl (by decide) ?_
        refine r_istore_n (pc2 := 48) d_M_days_47 rfl rfl (Nat.le_of_ble_eq_true rfl) ?_
        refine Run.sub (l2 := [(0, .ref 761), (1, .int (nI nN)), (2, .int (nI 0)), (3, .int (nI 0))]) ⟨rfl, rfl, rfl, rfl, trivial⟩ ?_
        exact l_M_days hS hR hT hTn hV hnt hnk (by omega) (by omega) (fun K hK => RQW.val (by (try simp only [enN, Int.toNat_natCast] at c1 c2 c4); (unfold o_days); (try dsimp only); (try simp only [enN, Int.toNat_natCast]); (repeat (first | rw [if_pos (by omega)] | rw [if_neg (by omega)])); (try rfl); (all_goals first | rfl | (congr 2; omega) | ((repeat' split) <;> first | rfl | (exfalso; omega) | (congr 2; omega) | skip))) (by (try simp only [enN, Int.toNat_natCast] at c1 c2 c4); (unfold g_days); (try dsimp only); (try simp only [enN, Int.toNat_natCast]); (repeat (first | rw [if_pos (by omega)] | rw [if_neg (by omega)])); exact hK)) (by omega) (by omega) _ 0 0 (I 762) I nS rfl FrS.rf.set hW hrk hTt (by rw [Nat.sub_zero, Nat.zero_add]) (by rw [Nat.sub_zero]) (Nat.zero_le _)
      · refine r_aload_n (x := some 761) (pc2 := 38) d_M_days_37 rfl rfl ?_
        refine r_bipush (v := (-35 : Int32)) (pc2 := 40) d_M_days_38 rfl (by decide) ?_
        refine q_callv (M2 := mi_M_refused) (pc2 := 43) d_M_days_40 rfl k_M_106 cm_M_refused cv_M_refused (sh_761 hS) (by decide) rfl rfl rfl (Nat.le_of_ble_eq_true rfl) (c_M_refused_3 (I := I) hS hR) (d2 := d - 1) (by omega) (Nat.le_of_eq (Nat.zero_add _)) (Nat.le_of_eq (Nat.zero_add _)) ?_
        obtain ⟨I5, hI5⟩ : ∃ x, x = u2 I 765 3 (I 765 3 + nI 1) := ⟨_, rfl⟩
        rw [← hI5]
        refine Run.ret (some (.int ((-35 : Int32)))) d_M_days_43 ⟨_, rfl⟩ ?_
        exact RQW.bad 3 (by (try simp only [enN, Int.toNat_natCast] at c1 c2 c4); (unfold o_days); (try dsimp only); (try simp only [enN, Int.toNat_natCast]); (repeat (first | rw [if_pos (by omega)] | rw [if_neg (by omega)])); (try rfl); (all_goals first | rfl | (congr 2; omega) | ((repeat' split) <;> first | rfl | (exfalso; omega) | (congr 2; omega) | skip)); (try rfl)) (by (try simp only [enN, Int.toNat_natCast] at c1 c2 c4); (unfold g_days); (try dsimp only); (try simp only [enN, Int.toNat_natCast]); (repeat (first | rw [if_pos (by omega)] | rw [if_neg (by omega)])); (try rfl); (all_goals first | rfl | (congr 2; omega) | ((repeat' split) <;> first | rfl | (exfalso; omega) | (congr 2; omega) | skip)); (try rfl)) (by decide) FrS.rf hI5
  · refine r_aload_n (x := some 761) (pc2 := 13) d_M_days_12 rfl rfl ?_
    refine r_bipush (v := (-32 : Int32)) (pc2 := 15) d_M_days_13 rfl (by decide) ?_
    refine q_callv (M2 := mi_M_refused) (pc2 := 18) d_M_days_15 rfl k_M_106 cm_M_refused cv_M_refused (sh_761 hS) (by decide) rfl rfl rfl (Nat.le_of_ble_eq_true rfl) (c_M_refused_0 (I := I) hS hR) (d2 := d - 1) (by omega) (Nat.le_of_eq (Nat.zero_add _)) (Nat.le_of_eq (Nat.zero_add _)) ?_
    obtain ⟨I6, hI6⟩ : ∃ x, x = u2 I 765 0 (I 765 0 + nI 1) := ⟨_, rfl⟩
    rw [← hI6]
    refine Run.ret (some (.int ((-32 : Int32)))) d_M_days_18 ⟨_, rfl⟩ ?_
    exact RQW.bad 0 (by (unfold o_days); (try dsimp only); (try simp only [Int.toNat_natCast]); (repeat (first | rw [if_pos (by omega)] | rw [if_neg (by omega)])); (try rfl); (all_goals first | rfl | (congr 2; omega) | ((repeat' split) <;> first | rfl | (exfalso; omega) | (congr 2; omega) | skip)); (try rfl)) (by (unfold g_days); (try dsimp only); (try simp only [Int.toNat_natCast]); (repeat (first | rw [if_pos (by omega)] | rw [if_neg (by omega)])); (try rfl); (all_goals first | rfl | (congr 2; omega) | ((repeat' split) <;> first | rfl | (exfalso; omega) | (congr 2; omega) | skip)); (try rfl)) (by decide) FrS.rf hI6
