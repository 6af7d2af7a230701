/-! THE CLASS: conditions, asked of persons -/
/-- a part of a condition, as the class tells it -/
def ptV (K : Nat → Int32) (I : Nat → Nat → Int32) (c b n : Nat) (q : Int32) : Int32 := if q.toInt = 0 then nI n else if q.toInt = 1 ∧ ((K (b + n)).toInt = 3 ∨ 7 ≤ (K (b + n)).toInt) then I (c + 2) n else if q.toInt = 2 ∧ 7 ≤ (K (b + n)).toInt then I (c + 3) n else -1
theorem CO.pt {K F C S : Nat → Int32} {I : Nat → Nat → Int32} {R : Nat → Nat → Option Nat} {sh : Nat → Nat × Nat} {c m b : Nat} (h : CO K F C S I R sh c m b) {n : Nat} (hn : n < m) : (((K (b + n)).toInt = 3 ∨ 7 ≤ (K (b + n)).toInt) → ∃ x, x < n ∧ I (c + 2) n = nI x ∧ F (b + n) = nI (b + x)) ∧ (7 ≤ (K (b + n)).toInt → ∃ y, y < n ∧ I (c + 3) n = nI y ∧ C (b + n) = nI (b + y)) := by
  obtain ⟨-, -, -, -, h5⟩ := h
  obtain ⟨-, h3, h7, -, -⟩ := h5 n hn
  refine ⟨fun q => ?_, fun q => ?_⟩
  · rcases q with q | q
    · exact h3 q
    · obtain ⟨x, y, a1, a2, a3, a4, a5, a6⟩ := h7 q
      exact ⟨x, a1, a3, a4⟩
  · obtain ⟨x, y, a1, a2, a3, a4, a5, a6⟩ := h7 q
    exact ⟨y, a2, a5, a6⟩
theorem CO.ne {K F C S : Nat → Int32} {I J : Nat → Nat → Int32} {R : Nat → Nat → Option Nat} {sh : Nat → Nat × Nat} {c m b c2 : Nat} (h : CO K F C S I R sh c m b) (h2 : (sh (c2 + 5)).1 = 14) (hJ : ∀ a, a ≠ c2 + 5 → J a = I a) : CO K F C S J R sh c m b := h.fr (fun a j _ h4 => by rw [hJ a (fun e => h4 (by rw [e]; exact h2))]) (fun _ _ _ => rfl)
def trP2 (tr : Int32 → Nat → Nat → Bool) (G : Nat → Int32) (p t : Nat) : Bool := trP tr G t p
theorem frT {sh : Nat → Nat × Nat} (hS : ShOK sh) {I J : Nat → Nat → Int32} {c : Nat} (h14 : (sh (c + 5)).1 = 14) (h : ∀ a, a ≠ c + 5 → J a = I a) : FrX sh I J := fun a j q => by rw [h a (fun e => q (Or.inr (Or.inr (by rw [e]; exact h14))))]
theorem c_Co_partOf {d : Nat} {I : Nat → Nat → Int32} {R : Nat → Nat → Option Nat} {L : Nat → Nat → Int64} {sh : Nat → Nat × Nat} {N : Nat} {tK tF tC tS : Nat → Int32} {nt : Nat} (hV : TV tK tF tC nt) {c m b : Nat} (hC : CO tK tF tC tS I R sh c m b) (hbn : b + m ≤ nt) {n : Nat} (hn : n < m) {q : Int32} (hd : 1 ≤ d) : Me mi_Co_partOf d 0 0 [.ref c, .int (nI n), .int q] (I, R, L, sh, N) (some (.int (ptV tK I c b n q))) (I, R, L, sh, N) := by
  refine Mt.of pn_Co (Nat.le_of_ble_eq_true rfl) ?_
  show Run mi_Co_partOf d 0 0 0 [(0, .ref c), (1, .int (nI n)), (2, .int q)] [] (I, R, L, sh, N) _
  have hk := (hV (b + n) (by omega)).1
  have hm250 := hC.2.2.1.2
  have hm1 : (-1 : Int32).toInt = -1 := by decide
  refine r_aload_n (x := some c) (pc2 := 1) d_Co_partOf_0 rfl rfl ?_
  refine r_iload_n (pc2 := 2) d_Co_partOf_1 rfl rfl ?_
  refine q_callv (M2 := mi_Co_kindOf) (pc2 := 5) d_Co_partOf_2 rfl k_Co_34 cm_Co_kindOf cv_Co_kindOf hC.1.1 (by decide) rfl rfl rfl (Nat.le_of_ble_eq_true rfl) (c_Co_kindOf hC (n := n) (by omega)) (d2 := d - 1) (by omega) (Nat.le_of_eq (Nat.zero_add _)) (Nat.le_of_eq (Nat.zero_add _)) ?_
  refine r_istore_n (pc2 := 6) d_Co_partOf_5 rfl rfl (Nat.le_of_ble_eq_true rfl) ?_
  refine r_iload_n (pc2 := 7) d_Co_partOf_6 rfl rfl ?_
  refine r_iconst (v := (-1 : Int32)) (pc2 := 8) d_Co_partOf_7 rfl (by decide) ?_
  refine q_icmp_eq (tgt := 15) (A := (tK (b + n)).toInt) (B := (-1 : Int)) (pc2 := 11) d_Co_partOf_8 rfl rfl (rfl) (by decide) (fun c1 => ?_) (fun c1 => ?_)
  · refine r_iload_n (pc2 := 16) d_Co_partOf_15 rfl rfl ?_
    refine r_iconst (v := (-1 : Int32)) (pc2 := 17) d_Co_partOf_16 rfl (by decide) ?_
    refine q_icmp_ne (tgt := 24) (A := (tK (b + n)).toInt) (B := (-1 : Int)) (pc2 := 20) d_Co_partOf_17 rfl rfl (rfl) (by decide) (fun c2 => ?_) (fun c2 => ?_)
    · refine r_iload_n (pc2 := 25) d_Co_partOf_24 rfl rfl ?_
      refine Run.ret (some (.int (nI n))) d_Co_partOf_25 ⟨_, rfl⟩ ?_
      first | (exfalso; omega) | exact ⟨by unfold ptV; (repeat (first | rw [if_pos (by omega)] | rw [if_neg (by omega)])), rfl⟩
    · refine r_iconst (v := (-1 : Int32)) (pc2 := 21) d_Co_partOf_20 rfl (by decide) ?_
      refine r_goto (tgt := 25) d_Co_partOf_21 rfl ?_
      refine Run.ret (some (.int ((-1 : Int32)))) d_Co_partOf_25 ⟨_, rfl⟩ ?_
      first | (exfalso; omega) | exact ⟨by unfold ptV; (repeat (first | rw [if_pos (by omega)] | rw [if_neg (by omega)])), rfl⟩
  · refine r_iload_n (pc2 := 12) d_Co_partOf_11 rfl rfl ?_
    refine q_if_ne (tgt := 26) (A := q.toInt) (pc2 := 15) d_Co_partOf_12 rfl rfl (rfl) (fun c3 => ?_) (fun c3 => ?_)
    · refine r_iload_n (pc2 := 27) d_Co_partOf_26 rfl rfl ?_
      refine r_bipush (v := nI 7) (pc2 := 29) d_Co_partOf_27 rfl (by decide) ?_
      refine q_icmp_eq (tgt := 38) (A := (tK (b + n)).toInt) (B := (7 : Int)) (pc2 := 32) d_Co_partOf_29 rfl rfl (rfl) (nI_toInt (by omega)) (fun c4 => ?_) (fun c4 => ?_)
      · refine r_iconst (v := nI 1) (pc2 := 39) d_Co_partOf_38 rfl (by decide) ?_
        refine r_goto (tgt := 43) d_Co_partOf_39 rfl ?_
        refine r_istore (pc2 := 45) d_Co_partOf_43 rfl (Nat.le_of_ble_eq_true rfl) ?_
        refine r_iload_n (pc2 := 46) d_Co_partOf_45 rfl rfl ?_
        refine r_iconst (v := nI 1) (pc2 := 47) d_Co_partOf_46 rfl (by decide) ?_
        refine q_icmp_ne (tgt := 67) (A := q.toInt) (B := (1 : Int)) (pc2 := 50) d_Co_partOf_47 rfl rfl (rfl) (nI_toInt (by omega)) (fun c5 => ?_) (fun c5 => ?_)
        · refine r_iload_n (pc2 := 68) d_Co_partOf_67 rfl rfl ?_
          refine r_iconst (v := nI 2) (pc2 := 69) d_Co_partOf_68 rfl (by decide) ?_
          refine q_icmp_ne (tgt := 86) (A := q.toInt) (B := (2 : Int)) (pc2 := 72) d_Co_partOf_69 rfl rfl (rfl) (nI_toInt (by omega)) (fun c6 => ?_) (fun c6 => ?_)
          · refine r_iconst (v := (-1 : Int32)) (pc2 := 87) d_Co_partOf_86 rfl (by decide) ?_
            refine Run.ret (some (.int ((-1 : Int32)))) d_Co_partOf_87 ⟨_, rfl⟩ ?_
            first | (exfalso; omega) | exact ⟨by unfold ptV; (repeat (first | rw [if_pos (by omega)] | rw [if_neg (by omega)])), rfl⟩
          · refine r_iload (pc2 := 74) d_Co_partOf_72 rfl rfl ?_
            refine q_if_eq (tgt := 86) (A := (1 : Int)) (pc2 := 77) d_Co_partOf_74 rfl rfl (nI_toInt (by omega)) (fun c7 => ?_) (fun c7 => ?_)
            · exfalso; omega
            refine r_aload_n (x := some c) (pc2 := 78) d_Co_partOf_77 rfl rfl ?_
            refine q_getR (x := some (c + 3)) (pc2 := 81) d_Co_partOf_78 rfl k_Co_24 rfl hC.1.1 hC.2.1.2.2.1 ?_
            refine r_iload_n (pc2 := 82) d_Co_partOf_81 rfl rfl ?_
            refine q_iaload (q := n) (x := I (c + 3) n) (pc2 := 83) d_Co_partOf_82 rfl (hC.1.2.2.2.1) (nI_toInt (by omega)) (by omega) rfl ?_
            refine r_goto (tgt := 87) d_Co_partOf_83 rfl ?_
            refine Run.ret (some (.int (I (c + 3) n))) d_Co_partOf_87 ⟨_, rfl⟩ ?_
            first | (exfalso; omega) | exact ⟨by unfold ptV; (repeat (first | rw [if_pos (by omega)] | rw [if_neg (by omega)])), rfl⟩
        · refine r_iload (pc2 := 52) d_Co_partOf_50 rfl rfl ?_
          refine q_if_ne (tgt := 60) (A := (1 : Int)) (pc2 := 55) d_Co_partOf_52 rfl rfl (nI_toInt (by omega)) (fun c8 => ?_) (fun c8 => ?_)
          rotate_left
          · exfalso; omega
          refine r_aload_n (x := some c) (pc2 := 61) d_Co_partOf_60 rfl rfl ?_
          refine q_getR (x := some (c + 2)) (pc2 := 64) d_Co_partOf_61 rfl k_Co_21 rfl hC.1.1 hC.2.1.2.1 ?_
          refine r_iload_n (pc2 := 65) d_Co_partOf_64 rfl rfl ?_
          refine q_iaload (q := n) (x := I (c + 2) n) (pc2 := 66) d_Co_partOf_65 rfl (hC.1.2.2.1) (nI_toInt (by omega)) (by omega) rfl ?_
          refine Run.ret (some (.int (I (c + 2) n))) d_Co_partOf_66 ⟨_, rfl⟩ ?_
          first | (exfalso; omega) | exact ⟨by unfold ptV; (repeat (first | rw [if_pos (by omega)] | rw [if_neg (by omega)])), rfl⟩
      · refine r_iload_n (pc2 := 33) d_Co_partOf_32 rfl rfl ?_
        refine r_bipush (v := nI 8) (pc2 := 35) d_Co_partOf_33 rfl (by decide) ?_
        refine q_icmp_ne (tgt := 42) (A := (tK (b + n)).toInt) (B := (8 : Int)) (pc2 := 38) d_Co_partOf_35 rfl rfl (rfl) (nI_toInt (by omega)) (fun c9 => ?_) (fun c9 => ?_)
        · refine r_iconst (v := nI 0) (pc2 := 43) d_Co_partOf_42 rfl (by decide) ?_
          refine r_istore (pc2 := 45) d_Co_partOf_43 rfl (Nat.le_of_ble_eq_true rfl) ?_
          refine r_iload_n (pc2 := 46) d_Co_partOf_45 rfl rfl ?_
          refine r_iconst (v := nI 1) (pc2 := 47) d_Co_partOf_46 rfl (by decide) ?_
          refine q_icmp_ne (tgt := 67) (A := q.toInt) (B := (1 : Int)) (pc2 := 50) d_Co_partOf_47 rfl rfl (rfl) (nI_toInt (by omega)) (fun c10 => ?_) (fun c10 => ?_)
          · refine r_iload_n (pc2 := 68) d_Co_partOf_67 rfl rfl ?_
            refine r_iconst (v := nI 2) (pc2 := 69) d_Co_partOf_68 rfl (by decide) ?_
            refine q_icmp_ne (tgt := 86) (A := q.toInt) (B := (2 : Int)) (pc2 := 72) d_Co_partOf_69 rfl rfl (rfl) (nI_toInt (by omega)) (fun c11 => ?_) (fun c11 => ?_)
            · refine r_iconst (v := (-1 : Int32)) (pc2 := 87) d_Co_partOf_86 rfl (by decide) ?_
              refine Run.ret (some (.int ((-1 : Int32)))) d_Co_partOf_87 ⟨_, rfl⟩ ?_
              first | (exfalso; omega) | exact ⟨by unfold ptV; (repeat (first | rw [if_pos (by omega)] | rw [if_neg (by omega)])), rfl⟩
            · refine r_iload (pc2 := 74) d_Co_partOf_72 rfl rfl ?_
              refine q_if_eq (tgt := 86) (A := (0 : Int)) (pc2 := 77) d_Co_partOf_74 rfl rfl (nI_toInt (by omega)) (fun c12 => ?_) (fun c12 => ?_)
              rotate_left
              · exfalso; omega
              refine r_iconst (v := (-1 : Int32)) (pc2 := 87) d_Co_partOf_86 rfl (by decide) ?_
              refine Run.ret (some (.int ((-1 : Int32)))) d_Co_partOf_87 ⟨_, rfl⟩ ?_
              first | (exfalso; omega) | exact ⟨by unfold ptV; (repeat (first | rw [if_pos (by omega)] | rw [if_neg (by omega)])), rfl⟩
          · refine r_iload (pc2 := 52) d_Co_partOf_50 rfl rfl ?_
            refine q_if_ne (tgt := 60) (A := (0 : Int)) (pc2 := 55) d_Co_partOf_52 rfl rfl (nI_toInt (by omega)) (fun c13 => ?_) (fun c13 => ?_)
            · exfalso; omega
            refine r_iload_n (pc2 := 56) d_Co_partOf_55 rfl rfl ?_
            refine r_iconst (v := nI 3) (pc2 := 57) d_Co_partOf_56 rfl (by decide) ?_
            refine q_icmp_ne (tgt := 67) (A := (tK (b + n)).toInt) (B := (3 : Int)) (pc2 := 60) d_Co_partOf_57 rfl rfl (rfl) (nI_toInt (by omega)) (fun c14 => ?_) (fun c14 => ?_)
            · refine r_iload_n (pc2 := 68) d_Co_partOf_67 rfl rfl ?_
              refine r_iconst (v := nI 2) (pc2 := 69) d_Co_partOf_68 rfl (by decide) ?_
              refine q_icmp_ne (tgt := 86) (A := q.toInt) (B := (2 : Int)) (pc2 := 72) d_Co_partOf_69 rfl rfl (rfl) (nI_toInt (by omega)) (fun c15 => ?_) (fun c15 => ?_)
              · refine r_iconst (v := (-1 : Int32)) (pc2 := 87) d_Co_partOf_86 rfl (by decide) ?_
                refine Run.ret (some (.int ((-1 : Int32)))) d_Co_partOf_87 ⟨_, rfl⟩ ?_
                first | (exfalso; omega) | exact ⟨by unfold ptV; (repeat (first | rw [if_pos (by omega)] | rw [if_neg (by omega)])), rfl⟩
              · refine r_iload (pc2 := 74) d_Co_partOf_72 rfl rfl ?_
                refine q_if_eq (tgt := 86) (A := (0 : Int)) (pc2 := 77) d_Co_partOf_74 rfl rfl (nI_toInt (by omega)) (fun c16 => ?_) (fun c16 => ?_)
                rotate_left
                · exfalso; omega
                refine r_iconst (v := (-1 : Int32)) (pc2 := 87) d_Co_partOf_86 rfl (by decide) ?_
                refine Run.ret (some (.int ((-1 : Int32)))) d_Co_partOf_87 ⟨_, rfl⟩ ?_
                first | (exfalso; omega) | exact ⟨by unfold ptV; (repeat (first | rw [if_pos (by omega)] | rw [if_neg (by omega)])), rfl⟩
            · refine r_aload_n (x := some c) (pc2 := 61) d_Co_partOf_60 rfl rfl ?_
              refine q_getR (x := some (c + 2)) (pc2 := 64) d_Co_partOf_61 rfl k_Co_21 rfl hC.1.1 hC.2.1.2.1 ?_
              refine r_iload_n (pc2 := 65) d_Co_partOf_64 rfl rfl ?_
              refine q_iaload (q := n) (x := I (c + 2) n) (pc2 := 66) d_Co_partOf_65 rfl (hC.1.2.2.1) (nI_toInt (by omega)) (by omega) rfl ?_
              refine Run.ret (some (.int (I (c + 2) n))) d_Co_partOf_66 ⟨_, rfl⟩ ?_
              first | (exfalso; omega) | exact ⟨by unfold ptV; (repeat (first | rw [if_pos (by omega)] | rw [if_neg (by omega)])), rfl⟩
        · refine r_iconst (v := nI 1) (pc2 := 39) d_Co_partOf_38 rfl (by decide) ?_
          refine r_goto (tgt := 43) d_Co_partOf_39 rfl ?_
          refine r_istore (pc2 := 45) d_Co_partOf_43 rfl (Nat.le_of_ble_eq_true rfl) ?_
          refine r_iload_n (pc2 := 46) d_Co_partOf_45 rfl rfl ?_
          refine r_iconst (v := nI 1) (pc2 := 47) d_Co_partOf_46 rfl (by decide) ?_
          refine q_icmp_ne (tgt := 67) (A := q.toInt) (B := (1 : Int)) (pc2 := 50) d_Co_partOf_47 rfl rfl (rfl) (nI_toInt (by omega)) (fun c17 => ?_) (fun c17 => ?_)
          · refine r_iload_n (pc2 := 68) d_Co_partOf_67 rfl rfl ?_
            refine r_iconst (v := nI 2) (pc2 := 69) d_Co_partOf_68 rfl (by decide) ?_
            refine q_icmp_ne (tgt := 86) (A := q.toInt) (B := (2 : Int)) (pc2 := 72) d_Co_partOf_69 rfl rfl (rfl) (nI_toInt (by omega)) (fun c18 => ?_) (fun c18 => ?_)
            · refine r_iconst (v := (-1 : Int32)) (pc2 := 87) d_Co_partOf_86 rfl (by decide) ?_
              refine Run.ret (some (.int ((-1 : Int32)))) d_Co_partOf_87 ⟨_, rfl⟩ ?_
              first | (exfalso; omega) | exact ⟨by unfold ptV; (repeat (first | rw [if_pos (by omega)] | rw [if_neg (by omega)])), rfl⟩
            · refine r_iload (pc2 := 74) d_Co_partOf_72 rfl rfl ?_
              refine q_if_eq (tgt := 86) (A := (1 : Int)) (pc2 := 77) d_Co_partOf_74 rfl rfl (nI_toInt (by omega)) (fun c19 => ?_) (fun c19 => ?_)
              · exfalso; omega
              refine r_aload_n (x := some c) (pc2 := 78) d_Co_partOf_77 rfl rfl ?_
              refine q_getR (x := some (c + 3)) (pc2 := 81) d_Co_partOf_78 rfl k_Co_24 rfl hC.1.1 hC.2.1.2.2.1 ?_
              refine r_iload_n (pc2 := 82) d_Co_partOf_81 rfl rfl ?_
              refine q_iaload (q := n) (x := I (c + 3) n) (pc2 := 83) d_Co_partOf_82 rfl (hC.1.2.2.2.1) (nI_toInt (by omega)) (by omega) rfl ?_
              refine r_goto (tgt := 87) d_Co_partOf_83 rfl ?_
              refine Run.ret (some (.int (I (c + 3) n))) d_Co_partOf_87 ⟨_, rfl⟩ ?_
              first | (exfalso; omega) | exact ⟨by unfold ptV; (repeat (first | rw [if_pos (by omega)] | rw [if_neg (by omega)])), rfl⟩
          · refine r_iload (pc2 := 52) d_Co_partOf_50 rfl rfl ?_
            refine q_if_ne (tgt := 60) (A := (1 : Int)) (pc2 := 55) d_Co_partOf_52 rfl rfl (nI_toInt (by omega)) (fun c20 => ?_) (fun c20 => ?_)
            rotate_left
            · exfalso; omega
            refine r_aload_n (x := some c) (pc2 := 61) d_Co_partOf_60 rfl rfl ?_
            refine q_getR (x := some (c + 2)) (pc2 := 64) d_Co_partOf_61 rfl k_Co_21 rfl hC.1.1 hC.2.1.2.1 ?_
            refine r_iload_n (pc2 := 65) d_Co_partOf_64 rfl rfl ?_
            refine q_iaload (q := n) (x := I (c + 2) n) (pc2 := 66) d_Co_partOf_65 rfl (hC.1.2.2.1) (nI_toInt (by omega)) (by omega) rfl ?_
            refine Run.ret (some (.int (I (c + 2) n))) d_Co_partOf_66 ⟨_, rfl⟩ ?_
            first | (exfalso; omega) | exact ⟨by unfold ptV; (repeat (first | rw [if_pos (by omega)] | rw [if_neg (by omega)])), rfl⟩
    · refine r_iload_n (pc2 := 16) d_Co_partOf_15 rfl rfl ?_
      refine r_iconst (v := (-1 : Int32)) (pc2 := 17) d_Co_partOf_16 rfl (by decide) ?_
      refine q_icmp_ne (tgt := 24) (A := (tK (b + n)).toInt) (B := (-1 : Int)) (pc2 := 20) d_Co_partOf_17 rfl rfl (rfl) (by decide) (fun c21 => ?_) (fun c21 => ?_)
      · refine r_iload_n (pc2 := 25) d_Co_partOf_24 rfl rfl ?_
        refine Run.ret (some (.int (nI n))) d_Co_partOf_25 ⟨_, rfl⟩ ?_
        first | (exfalso; omega) | exact ⟨by unfold ptV; (repeat (first | rw [if_pos (by omega)] | rw [if_neg (by omega)])), rfl⟩
      · refine r_iconst (v := (-1 : Int32)) (pc2 := 21) d_Co_partOf_20 rfl (by decide) ?_
        refine r_goto (tgt := 25) d_Co_partOf_21 rfl ?_
        refine Run.ret (some (.int ((-1 : Int32)))) d_Co_partOf_25 ⟨_, rfl⟩ ?_
        first | (exfalso; omega) | exact ⟨by unfold ptV; (repeat (first | rw [if_pos (by omega)] | rw [if_neg (by omega)])), rfl⟩
theorem l_X_personsOf {d : Nat} {I : Nat → Nat → Int32} {R : Nat → Nat → Option Nat} {L : Nat → Nat → Int64} {sh : Nat → Nat × Nat} {N : Nat} (hS : ShOK sh) (hR : RfOK R) {tK tF tC tS : Nat → Int32} {nt : Nat} (hV : TV tK tF tC nt) (hV2 : TV2 tK tF tC tS nt) (hnt6 : nt ≤ 1000000) {G : Nat → Int32} {nP nF nS : Nat} (hW : WFA G nP nF nt) (hWT : WFT G nF nS) (hKW : WFK G nP nF) {rk : Nat → Nat} (hrk : RK G nF rk) (hD : DR tK tF tC tS I R sh nt 0 G nP nF nS) {c m b : Nat} (hC : CO tK tF tC tS I R sh c m b) (hbn : b + m ≤ nt) {n : Nat} (hn : n < m) {P : Nat → Bool} (hP : ∀ p, P p = trP (TRK tK tF tC tS) G (b + n) p) {Q : Option Value → HS → Prop} (hq : ∀ K, (∀ a, a ≠ c + 5 → K a = I a) → Q (some (.int (bits P nP))) (K, R, L, sh, N)) (hd : 4 ≤ d) : ∀ (n_ : Nat) (i : Nat) (J : Nat → Nat → Int32), nP - i = n_ → (∀ a, a ≠ c + 5 → J a = I a) → (i ≤ nP) → Run mi_X_personsOf d 0 0 14 [(0, .ref 0), (1, .ref c), (2, .int (nI n)), (3, .ref 2), (4, .int (bits P i)), (5, .int (nI i))] [] (J, R, L, sh, N) Q := by
  intro n_
  induction n_ using Nat.strongRecOn with | ind n_ ih_ => ?_
  intro i J hn_ v0_ v1_
  obtain ⟨hPc, hP24, hFc, hF12, hWF, hWP⟩ := id hW
  have c781 := hC.2.2.2.1
  have h14 : (sh (c + 5)).1 = 14 := by rw [hC.1.2.2.2.2.2]
  have hm250 := hC.2.2.1.2
  refine r_iload (pc2 := 16) d_X_personsOf_14 rfl rfl ?_
  refine r_aload_n (x := some 2) (pc2 := 17) d_X_personsOf_16 rfl rfl ?_
  refine q_getI (x := nI nP) (pc2 := 20) d_X_personsOf_17 rfl k_X_189 (by decide) (sh_2 hS) ((congrFun (v0_ 2 (by omega)) _).trans hD.1.1) ?_
  refine q_icmp_ge (tgt := 60) (A := ((i : Nat) : Int)) (B := ((nP : Nat) : Int)) (pc2 := 23) d_X_personsOf_20 rfl rfl (nI_toInt (by omega)) (nI_toInt (by omega)) (fun c1 => ?_) (fun c1 => ?_)
  · refine r_iload (pc2 := 62) d_X_personsOf_60 rfl rfl ?_
    refine Run.ret (some (.int (bits P i))) d_X_personsOf_62 ⟨_, rfl⟩ ?_
    rw [show i = nP by omega]; exact hq J v0_
  · obtain ⟨att, hatt, hatt2⟩ : ∃ a : Nat, G (6 + 2 * i + 1) = nI a ∧ (G (6 + 2 * i + 1)).toInt = (a : Int) := ⟨(G (6 + 2 * i + 1)).toInt.toNat, eq_nI (Int.toNat_of_nonneg (hWP i (by omega)).1.1).symm, (Int.toNat_of_nonneg (hWP i (by omega)).1.1).symm⟩
    have hatt9 : att ≤ 9999 := by have := (hWP i (by omega)).1.2; omega
    have htb : trP (TRK tK tF tC tS) G (b + n) i = trt tK tF tC tS (G (6 + 2 * i)) att (b + n) := by show trt tK tF tC tS (G (6 + 2 * i)) (G (6 + 2 * i + 1)).toInt.toNat (b + n) = _; rw [hatt2, Int.toNat_natCast]
    have r3 : J 3 = I 3 := v0_ 3 (by omega)
    have r4 : J 4 = I 4 := v0_ 4 (by omega)
    refine r_aload_n (x := some c) (pc2 := 24) d_X_personsOf_23 rfl rfl ?_
    refine r_iload_n (pc2 := 25) d_X_personsOf_24 rfl rfl ?_
    refine r_aload_n (x := some 2) (pc2 := 26) d_X_personsOf_25 rfl rfl ?_
    refine q_getR (x := some 3) (pc2 := 29) d_X_personsOf_26 rfl k_X_202 rfl (sh_2 hS) (rf_2_0 hR) ?_
    refine r_iload (pc2 := 31) d_X_personsOf_29 rfl rfl ?_
    refine q_iaload (q := i) (x := G (6 + 2 * i)) (pc2 := 32) d_X_personsOf_31 rfl (sh_3 hS) (nI_toInt (by omega)) (by omega) ((congrFun r3 _).trans (hD.2.1 i (by omega)).1) ?_
    refine r_aload_n (x := some 2) (pc2 := 33) d_X_personsOf_32 rfl rfl ?_
    refine q_getR (x := some 4) (pc2 := 36) d_X_personsOf_33 rfl k_X_195 rfl (sh_2 hS) (rf_2_1 hR) ?_
    refine r_iload (pc2 := 38) d_X_personsOf_36 rfl rfl ?_
    refine q_iaload (q := i) (x := nI att) (pc2 := 39) d_X_personsOf_38 rfl (sh_4 hS) (nI_toInt (by omega)) (by omega) ((congrFun r4 _).trans ((hD.2.1 i (by omega)).2.trans hatt)) ?_
    refine r_callv (M2 := mi_Co_isSo) (pc2 := 42) d_X_personsOf_39 rfl k_X_426 cm_Co_isSo cv_Co_isSo hC.1.1 (by decide) rfl rfl rfl (Nat.le_of_ble_eq_true rfl) (c_Co_isSo (I := J) hV hV2 (hC.ne h14 v0_) hbn hnt6 (n := n) hn (key := G (6 + 2 * i)) (att := att) hatt9 (d := d - 1) (by omega)) (d2 := d - 1) (by omega) (Nat.le_of_eq (Nat.zero_add _)) (Nat.le_of_eq (Nat.zero_add _)) (fun r2 h2 hq2 => ?_)
    obtain ⟨J2, rfl, rfl, hJ2⟩ := hq2
    change Run _ _ _ _ _ _ [.int (bI (trt tK tF tC tS (G (6 + 2 * i)) att (b + n) = true))] _ _
    refine q_bif_eq (tgt := 54) (pc2 := 45) d_X_personsOf_42 rfl rfl (fun c3 => ?_) (fun c3 => ?_)
    · refine q_iinc (b := 1) (pc2 := 57) d_X_personsOf_54 rfl rfl (by decide) (Nat.le_of_ble_eq_true rfl) ?_
      refine r_goto (tgt := 14) d_X_personsOf_57 rfl ?_
      rw [show bits P i = bits P (i + 1) from by rw [bits_s, if_neg (by rw [hP]; exact fun q => c3 (htb.symm.trans q))]]
      refine Run.sub (l2 := [(0, .ref 0), (1, .ref c), (2, .int (nI n)), (3, .ref 2), (4, .int (bits P (i + 1))), (5, .int (nI (i + 1)))]) ⟨rfl, rfl, rfl, rfl, rfl, rfl, trivial⟩ ?_
      exact ih_ (nP - (i + 1)) (by omega) (i + 1) J2 rfl (fun a ha => (hJ2 a ha).trans (v0_ a ha)) (by omega)
    · refine r_iload (pc2 := 47) d_X_personsOf_45 rfl rfl ?_
      refine r_iconst (v := nI 1) (pc2 := 48) d_X_personsOf_47 rfl (by decide) ?_
      refine r_iload (pc2 := 50) d_X_personsOf_48 rfl rfl ?_
      refine r_ishl (pc2 := 51) d_X_personsOf_50 rfl ?_
      refine r_ior (pc2 := 52) d_X_personsOf_51 rfl ?_
      refine r_istore (pc2 := 54) d_X_personsOf_52 rfl (Nat.le_of_ble_eq_true rfl) ?_
      refine q_iinc (b := 1) (pc2 := 57) d_X_personsOf_54 rfl rfl (by decide) (Nat.le_of_ble_eq_true rfl) ?_
      refine r_goto (tgt := 14) d_X_personsOf_57 rfl ?_
      rw [show (bits P i) ||| ((nI 1) <<< ((nI i) &&& 31)) = bits P (i + 1) from by rw [bits_s, if_pos (by rw [hP]; exact htb.trans c3)]]
      refine Run.sub (l2 := [(0, .ref 0), (1, .ref c), (2, .int (nI n)), (3, .ref 2), (4, .int (bits P (i + 1))), (5, .int (nI (i + 1)))]) ⟨rfl, rfl, rfl, rfl, rfl, rfl, trivial⟩ ?_
      exact ih_ (nP - (i + 1)) (by omega) (i + 1) J2 rfl (fun a ha => (hJ2 a ha).trans (v0_ a ha)) (by omega)
theorem c_X_personsOf {d : Nat} {I : Nat → Nat → Int32} {R : Nat → Nat → Option Nat} {L : Nat → Nat → Int64} {sh : Nat → Nat × Nat} {N : Nat} (hS : ShOK sh) (hR : RfOK R) {tK tF tC tS : Nat → Int32} {nt : Nat} (hV : TV tK tF tC nt) (hV2 : TV2 tK tF tC tS nt) (hnt6 : nt ≤ 1000000) {G : Nat → Int32} {nP nF nS : Nat} (hW : WFA G nP nF nt) (hWT : WFT G nF nS) (hKW : WFK G nP nF) {rk : Nat → Nat} (hrk : RK G nF rk) (hD : DR tK tF tC tS I R sh nt 0 G nP nF nS) {c m b : Nat} (hC : CO tK tF tC tS I R sh c m b) (hbn : b + m ≤ nt) {n : Nat} (hn : n < m) (hd : 6 ≤ d) : Mt mi_X_personsOf d 0 0 [.ref 0, .ref c, .int (nI n)] (I, R, L, sh, N) (fun r h2 => ∃ K, h2 = (K, R, L, sh, N) ∧ r = some (.int (bits (trP (TRK tK tF tC tS) G (b + n)) nP)) ∧ ∀ a, a ≠ c + 5 → K a = I a) := by
  refine Mt.of pn_X (Nat.le_of_ble_eq_true rfl) ?_
  show Run mi_X_personsOf d 0 0 0 [(0, .ref 0), (1, .ref c), (2, .int (nI n))] [] (I, R, L, sh, N) _
  refine r_aload_n (x := some 0) (pc2 := 1) d_X_personsOf_0 rfl rfl ?_
  refine q_getR (x := some 1) (pc2 := 4) d_X_personsOf_1 rfl k_X_12 rfl (sh_0 hS) (rf_0_0 hR) ?_
  refine q_getR (x := some 2) (pc2 := 7) d_X_personsOf_4 rfl k_X_179 rfl (sh_1 hS) (rf_1_0 hR) ?_
  refine r_astore_n (x := some 2) (pc2 := 8) d_X_personsOf_7 rfl rfl (Nat.le_of_ble_eq_true rfl) ?_
  refine r_iconst (v := nI 0) (pc2 := 9) d_X_personsOf_8 rfl (by decide) ?_
  refine r_istore (pc2 := 11) d_X_personsOf_9 rfl (Nat.le_of_ble_eq_true rfl) ?_
  refine r_iconst (v := nI 0) (pc2 := 12) d_X_personsOf_11 rfl (by decide) ?_
  refine r_istore (pc2 := 14) d_X_personsOf_12 rfl (Nat.le_of_ble_eq_true rfl) ?_
  refine Run.sub (l2 := [(0, .ref 0), (1, .ref c), (2, .int (nI n)), (3, .ref 2), (4, .int (nI 0)), (5, .int (nI 0))]) ⟨rfl, rfl, rfl, rfl, rfl, rfl, trivial⟩ ?_
  exact l_X_personsOf hS hR hV hV2 hnt6 hW hWT hKW hrk hD hC hbn hn (P := trP (TRK tK tF tC tS) G (b + n)) (fun p => rfl) (fun K hK => ⟨K, rfl, rfl, hK⟩) (by omega) _ 0 I rfl (fun _ _ => rfl) (Nat.zero_le _)
theorem c_X_so {d : Nat} {I : Nat → Nat → Int32} {R : Nat → Nat → Option Nat} {L : Nat → Nat → Int64} {sh : Nat → Nat × Nat} {N : Nat} (hS : ShOK sh) (hR : RfOK R) {tK tF tC tS : Nat → Int32} {nt : Nat} (hV : TV tK tF tC nt) (hV2 : TV2 tK tF tC tS nt) (hnt6 : nt ≤ 1000000) {G : Nat → Int32} {nP nF nS : Nat} (hW : WFA G nP nF nt) (hWT : WFT G nF nS) (hKW : WFK G nP nF) {rk : Nat → Nat} (hrk : RK G nF rk) (hD : DR tK tF tC tS I R sh nt 0 G nP nF nS) {f : Int32} {r : Int32} (hd : 80 ≤ d) : Mt mi_X_so d 0 0 [.ref 0, .int f, .int r] (I, R, L, sh, N) (XP I R L sh N (o_so (trP2 (TRK tK tF tC tS) G) G nP nF f r) (fun K _ => FrX sh I K)) := by
  obtain ⟨hPc, hP24, hFc, hF12, hWF, hWP⟩ := id hW
  refine Mt.of pn_X (Nat.le_of_ble_eq_true rfl) ?_
  show Run mi_X_so d 0 0 0 [(0, .ref 0), (1, .int f), (2, .int r)] [] (I, R, L, sh, N) _
  refine r_aload_n (x := some 0) (pc2 := 1) d_X_so_0 rfl rfl ?_
  refine r_iload_n (pc2 := 2) d_X_so_1 rfl rfl ?_
  refine r_iload_n (pc2 := 3) d_X_so_2 rfl rfl ?_
  refine q_callv (M2 := mi_X_isRule) (pc2 := 6) d_X_so_3 rfl k_X_122 cm_X_isRule cv_X_isRule (sh_0 hS) (by decide) rfl rfl rfl (Nat.le_of_ble_eq_true rfl) (c_X_isRule (f := f) (r := r) hS hR hV hV2 hnt6 hW hWT hKW hrk hD (by omega)) (d2 := d - 1) (by omega) (Nat.le_of_eq (Nat.zero_add _)) (Nat.le_of_eq (Nat.zero_add _)) ?_
  refine q_bif_ne (tgt := 16) (pc2 := 9) d_X_so_6 rfl rfl (fun c1 => ?_) (fun c1 => ?_)
  · obtain ⟨fN, hfN, rfl, efN⟩ := nat_of c1.1
    obtain ⟨tpfN, klfN, skfN, fbfN, nRfN, nNfN, nOfN, frfN, tofN, ⟨a0fN, b0fN, cc0fN, dd0fN⟩, ⟨a1fN, b1fN, cc1fN, dd1fN⟩, ⟨a2fN, b2fN, cc2fN, dd2fN⟩, ⟨a3fN, b3fN, cc3fN, dd3fN⟩, ⟨a4fN, b4fN, cc4fN, dd4fN⟩, ⟨a5fN, b5fN, cc5fN, dd5fN⟩, ⟨a6fN, b6fN, cc6fN, dd6fN⟩, ⟨a8fN, b8fN, cc8fN, dd8fN⟩, ⟨a9fN, b9fN, cc9fN, dd9fN⟩⟩ := wfn (hWF fN (by omega))
    obtain ⟨-, -, -, -, -, -, -, w7fN, -, -, wNfN, wRfN, wKfN, wOfN⟩ := hWF fN (by omega)
    obtain ⟨⟨x0fN, x1fN, x2fN, x3fN, x4fN, x5fN, x6fN, x7fN, x8fN⟩, xnfN, xofN, xkfN, xcfN, xrfN⟩ := hD.2.2.2.1 fN (by omega)
    have hflfN := fe_lt (e := 0) (by decide) (show fN < 12 by omega)
    unfold dk at hflfN
    simp only [efN, Int.toNat_natCast, b4fN] at c1
    obtain ⟨rN, hrN, rfl, erN⟩ := nat_of c1.2
    obtain ⟨rtfNrN, rafNrN, rbfNrN, rcfNrN, ⟨t0fNrN, t1fNrN, t2fNrN⟩, ⟨u0fNrN, u1fNrN, u2fNrN⟩, ⟨v0fNrN, v1fNrN, v2fNrN⟩, ⟨z0fNrN, z1fNrN, z2fNrN⟩⟩ := wrn (wRfN rN (by omega))
    obtain ⟨rffNrN, rsfNrN, cfNrN, mfNrN, bbfNrN, rrfNrN, cofNrN, bnfNrN, ttfNrN⟩ := xrfN rN (by unfold nRof; rw [b4fN, Int.toNat_natCast]; omega)
    have cmfNrN := cofNrN.2.2.1
    have c781fNrN := cofNrN.2.2.2.1
    refine r_aload_n (x := some 0) (pc2 := 17) d_X_so_16 rfl rfl ?_
    refine r_iload_n (pc2 := 18) d_X_so_17 rfl rfl ?_
    refine r_iload_n (pc2 := 19) d_X_so_18 rfl rfl ?_
    refine q_callv (M2 := mi_X_ruleAt) (pc2 := 22) d_X_so_19 rfl k_X_125 cm_X_ruleAt cv_X_ruleAt (sh_0 hS) (by decide) rfl rfl rfl (Nat.le_of_ble_eq_true rfl) (c_X_ruleAt (I := I) (F := fN) (r := rN) hS hR (by omega) (by omega)) (d2 := d - 1) (by omega) (Nat.le_of_eq (Nat.zero_add _)) (Nat.le_of_eq (Nat.zero_add _)) ?_
    refine q_getR (x := some cfNrN) (pc2 := 25) d_X_so_22 rfl k_X_129 rfl (sh_ru hS (show 0 < 3 by decide) (show fN < 12 by omega) (show rN < 6 by omega)) rrfNrN ?_
    refine r_astore_n (x := some cfNrN) (pc2 := 26) d_X_so_25 rfl rfl (Nat.le_of_ble_eq_true rfl) ?_
    refine r_aload_n (x := some cfNrN) (pc2 := 27) d_X_so_26 rfl rfl ?_
    refine r_ifnonnull (x := some cfNrN) (tgt := 34) (pc2 := 30) d_X_so_27 rfl rfl (fun _ c2 => ?_) (fun c2 => ?_)
    rotate_left
    · cases c2
    refine r_aload_n (x := some 0) (pc2 := 35) d_X_so_34 rfl rfl ?_
    refine r_aload_n (x := some cfNrN) (pc2 := 36) d_X_so_35 rfl rfl ?_
    refine r_aload_n (x := some cfNrN) (pc2 := 37) d_X_so_36 rfl rfl ?_
    refine q_callv (M2 := mi_Co_root) (pc2 := 40) d_X_so_37 rfl k_X_135 cm_Co_root cv_Co_root cofNrN.1.1 (by decide) rfl rfl rfl (Nat.le_of_ble_eq_true rfl) (c_Co_root (I := I) cofNrN) (d2 := d - 1) (by omega) (Nat.le_of_eq (Nat.zero_add _)) (Nat.le_of_eq (Nat.zero_add _)) ?_
    refine r_callv (M2 := mi_X_personsOf) (pc2 := 43) d_X_so_40 rfl k_X_161 cm_X_personsOf cv_X_personsOf (sh_0 hS) (by decide) rfl rfl rfl (Nat.le_of_ble_eq_true rfl) (c_X_personsOf (I := I) hS hR hV hV2 hnt6 hW hWT hKW hrk hD cofNrN bnfNrN (n := mfNrN - 1) (by omega) (d := d - 1) (by omega)) (d2 := d - 1) (by omega) (Nat.le_of_eq (Nat.zero_add _)) (Nat.le_of_eq (Nat.zero_add _)) (fun r2 h2 hq2 => ?_)
    obtain ⟨K3, rfl, rfl, hK3⟩ := hq2
    change Run _ _ _ _ _ _ [.int (bits (trP (TRK tK tF tC tS) G (bbfNrN + (mfNrN - 1))) nP)] _ _
    refine Run.ret (some (.int (bits (trP (TRK tK tF tC tS) G (bbfNrN + (mfNrN - 1))) nP))) d_X_so_43 ⟨_, rfl⟩ ?_
    refine XP.val ?_ FrXR.rf (frT hS (show (sh (cfNrN + 5)).1 = 14 by rw [cofNrN.1.2.2.2.2.2]) hK3)
    have hrt : rtfNrN = bbfNrN + (mfNrN - 1) := by
      have h := t1fNrN
      rw [ttfNrN, nI_toInt (by omega)] at h; omega
    unfold o_so; (try simp only [efN, b0fN, b1fN, b2fN, b3fN, b4fN, b5fN, b6fN, b8fN, b9fN, erN, t1fNrN, u1fNrN, v1fNrN, z1fNrN, Int.toNat_natCast]); rw [if_pos (by omega), hrt]; rfl
  · refine r_aload_n (x := some 0) (pc2 := 10) d_X_so_9 rfl rfl ?_
    refine r_bipush (v := (-32 : Int32)) (pc2 := 12) d_X_so_10 rfl (by decide) ?_
    refine q_callv (M2 := mi_X_refuse) (pc2 := 15) d_X_so_12 rfl k_X_75 cm_X_refuse cv_X_refuse (sh_0 hS) (by decide) rfl rfl rfl (Nat.le_of_ble_eq_true rfl) (c_X_refuse_0 (J := I) hS hR) (d2 := d - 1) (by omega) (Nat.le_of_eq (Nat.zero_add _)) (Nat.le_of_eq (Nat.zero_add _)) ?_
    obtain ⟨I4, hI4⟩ : ∃ x, x = u2 I 744 0 (I 744 0 + nI 1) := ⟨_, rfl⟩
    rw [← hI4]
    refine Run.ret (some (.int ((-32 : Int32)))) d_X_so_15 ⟨_, rfl⟩ ?_
    exact XP.bad hS 0 (by (unfold o_so); (try dsimp only); (try simp only [Int.toNat_natCast]); (repeat (first | rw [if_pos (by omega)] | rw [if_neg (by omega)])); (try rfl); (all_goals first | rfl | (congr 2 <;> omega) | ((repeat' split) <;> first | rfl | (exfalso; omega) | (congr 2 <;> omega) | skip))) (by decide) FrXR.rf FrX.rf hI4
theorem c_X_isOfKind {d : Nat} {h : HS} {x : Nat} (hx : 3 ≤ x ∧ x ≤ 8) {k : Nat} (hk : k ≤ 8) : Me mi_X_isOfKind d 0 0 [.int (nI x), .int (nI k)] h (some (.int (bI (isUnd (x : Int) (k : Int))))) h := by
  refine Mt.of pn_X (Nat.le_of_ble_eq_true rfl) ?_
  show Run mi_X_isOfKind d 0 0 0 [(0, .int (nI x)), (1, .int (nI k))] [] h _
  refine r_iload_n (pc2 := 1) d_X_isOfKind_0 rfl rfl ?_
  refine q_switch (tgt := 70) (A := ((k : Nat) : Int)) d_X_isOfKind_1 rfl (nI_toInt (by omega)) (fun off t2 c1a c1b c1o c1t => ?_) (by decide) (by decide) (fun c1 => ?_)
  · have c1c : ((k : Nat) : Int) = 0 ∨ ((k : Nat) : Int) = 1 ∨ ((k : Nat) : Int) = 2 := by omega
    rcases c1c with c1e | c1e | c1e
    · obtain rfl : t2 = 28 := by
        have hh : (some (27 : Int)) = some off := by rw [c1e] at c1o; exact c1o
        cases hh; omega
      refine r_iconst (v := nI 1) (pc2 := 29) d_X_isOfKind_28 rfl (by decide) ?_
      refine Run.ret (some (.int (nI 1))) d_X_isOfKind_29 ⟨_, rfl, by decide⟩ ?_
      first | (exfalso; omega) | exact ⟨by rw [bI_t (by unfold isUnd; omega)]; rfl, rfl⟩
    · obtain rfl : t2 = 30 := by
        have hh : (some (29 : Int)) = some off := by rw [c1e] at c1o; exact c1o
        cases hh; omega
      refine r_iload_n (pc2 := 31) d_X_isOfKind_30 rfl rfl ?_
      refine r_iconst (v := nI 4) (pc2 := 32) d_X_isOfKind_31 rfl (by decide) ?_
      refine q_icmp_eq (tgt := 46) (A := ((x : Nat) : Int)) (B := (4 : Int)) (pc2 := 35) d_X_isOfKind_32 rfl rfl (nI_toInt (by omega)) (nI_toInt (by omega)) (fun c2 => ?_) (fun c2 => ?_)
      · refine r_iconst (v := nI 1) (pc2 := 47) d_X_isOfKind_46 rfl (by decide) ?_
        refine r_goto (tgt := 51) d_X_isOfKind_47 rfl ?_
        refine Run.ret (some (.int (nI 1))) d_X_isOfKind_51 ⟨_, rfl, by decide⟩ ?_
        first | (exfalso; omega) | exact ⟨by rw [bI_t (by unfold isUnd; omega)]; rfl, rfl⟩
      · refine r_iload_n (pc2 := 36) d_X_isOfKind_35 rfl rfl ?_
        refine r_iconst (v := nI 5) (pc2 := 37) d_X_isOfKind_36 rfl (by decide) ?_
        refine q_icmp_eq (tgt := 46) (A := ((x : Nat) : Int)) (B := (5 : Int)) (pc2 := 40) d_X_isOfKind_37 rfl rfl (nI_toInt (by omega)) (nI_toInt (by omega)) (fun c3 => ?_) (fun c3 => ?_)
        · refine r_iconst (v := nI 1) (pc2 := 47) d_X_isOfKind_46 rfl (by decide) ?_
          refine r_goto (tgt := 51) d_X_isOfKind_47 rfl ?_
          refine Run.ret (some (.int (nI 1))) d_X_isOfKind_51 ⟨_, rfl, by decide⟩ ?_
          first | (exfalso; omega) | exact ⟨by rw [bI_t (by unfold isUnd; omega)]; rfl, rfl⟩
        · refine r_iload_n (pc2 := 41) d_X_isOfKind_40 rfl rfl ?_
          refine r_bipush (v := nI 6) (pc2 := 43) d_X_isOfKind_41 rfl (by decide) ?_
          refine q_icmp_ne (tgt := 50) (A := ((x : Nat) : Int)) (B := (6 : Int)) (pc2 := 46) d_X_isOfKind_43 rfl rfl (nI_toInt (by omega)) (nI_toInt (by omega)) (fun c4 => ?_) (fun c4 => ?_)
          · refine r_iconst (v := nI 0) (pc2 := 51) d_X_isOfKind_50 rfl (by decide) ?_
            refine Run.ret (some (.int (nI 0))) d_X_isOfKind_51 ⟨_, rfl, by decide⟩ ?_
            first | (exfalso; omega) | exact ⟨by rw [bI_f (by unfold isUnd; omega)]; rfl, rfl⟩
          · refine r_iconst (v := nI 1) (pc2 := 47) d_X_isOfKind_46 rfl (by decide) ?_
            refine r_goto (tgt := 51) d_X_isOfKind_47 rfl ?_
            refine Run.ret (some (.int (nI 1))) d_X_isOfKind_51 ⟨_, rfl, by decide⟩ ?_
            first | (exfalso; omega) | exact ⟨by rw [bI_t (by unfold isUnd; omega)]; rfl, rfl⟩
    · obtain rfl : t2 = 52 := by
        have hh : (some (51 : Int)) = some off := by rw [c1e] at c1o; exact c1o
        cases hh; omega
      refine r_iload_n (pc2 := 53) d_X_isOfKind_52 rfl rfl ?_
      refine r_bipush (v := nI 7) (pc2 := 55) d_X_isOfKind_53 rfl (by decide) ?_
      refine q_icmp_eq (tgt := 64) (A := ((x : Nat) : Int)) (B := (7 : Int)) (pc2 := 58) d_X_isOfKind_55 rfl rfl (nI_toInt (by omega)) (nI_toInt (by omega)) (fun c5 => ?_) (fun c5 => ?_)
      · refine r_iconst (v := nI 1) (pc2 := 65) d_X_isOfKind_64 rfl (by decide) ?_
        refine r_goto (tgt := 69) d_X_isOfKind_65 rfl ?_
        refine Run.ret (some (.int (nI 1))) d_X_isOfKind_69 ⟨_, rfl, by decide⟩ ?_
        first | (exfalso; omega) | exact ⟨by rw [bI_t (by unfold isUnd; omega)]; rfl, rfl⟩
      · refine r_iload_n (pc2 := 59) d_X_isOfKind_58 rfl rfl ?_
        refine r_bipush (v := nI 8) (pc2 := 61) d_X_isOfKind_59 rfl (by decide) ?_
        refine q_icmp_ne (tgt := 68) (A := ((x : Nat) : Int)) (B := (8 : Int)) (pc2 := 64) d_X_isOfKind_61 rfl rfl (nI_toInt (by omega)) (nI_toInt (by omega)) (fun c6 => ?_) (fun c6 => ?_)
        · refine r_iconst (v := nI 0) (pc2 := 69) d_X_isOfKind_68 rfl (by decide) ?_
          refine Run.ret (some (.int (nI 0))) d_X_isOfKind_69 ⟨_, rfl, by decide⟩ ?_
          first | (exfalso; omega) | exact ⟨by rw [bI_f (by unfold isUnd; omega)]; rfl, rfl⟩
        · refine r_iconst (v := nI 1) (pc2 := 65) d_X_isOfKind_64 rfl (by decide) ?_
          refine r_goto (tgt := 69) d_X_isOfKind_65 rfl ?_
          refine Run.ret (some (.int (nI 1))) d_X_isOfKind_69 ⟨_, rfl, by decide⟩ ?_
          first | (exfalso; omega) | exact ⟨by rw [bI_t (by unfold isUnd; omega)]; rfl, rfl⟩
  · refine r_iload_n (pc2 := 71) d_X_isOfKind_70 rfl rfl ?_
    refine r_iload_n (pc2 := 72) d_X_isOfKind_71 rfl rfl ?_
    refine q_icmp_ne (tgt := 79) (A := ((x : Nat) : Int)) (B := ((k : Nat) : Int)) (pc2 := 75) d_X_isOfKind_72 rfl rfl (nI_toInt (by omega)) (nI_toInt (by omega)) (fun c7 => ?_) (fun c7 => ?_)
    · refine r_iconst (v := nI 0) (pc2 := 80) d_X_isOfKind_79 rfl (by decide) ?_
      refine Run.ret (some (.int (nI 0))) d_X_isOfKind_80 ⟨_, rfl, by decide⟩ ?_
      first | (exfalso; omega) | exact ⟨by rw [bI_f (by unfold isUnd; omega)]; rfl, rfl⟩
    · refine r_iconst (v := nI 1) (pc2 := 76) d_X_isOfKind_75 rfl (by decide) ?_
      refine r_goto (tgt := 80) d_X_isOfKind_76 rfl ?_
      refine Run.ret (some (.int (nI 1))) d_X_isOfKind_80 ⟨_, rfl, by decide⟩ ?_
      first | (exfalso; omega) | exact ⟨by rw [bI_t (by unfold isUnd; omega)]; rfl, rfl⟩
