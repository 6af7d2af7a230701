/-! THE REFERENCE: trees -/
/-! trees of conditions, as rows of nodes -/
def tst (s : Int32) (v : Nat) (c : Int32) : Bool := if s.toInt = 60 then decide ((v : Int) < c.toInt) else if s.toInt = 61 then decide ((v : Int) = c.toInt) else decide (c.toInt < (v : Int))
theorem tst_iff {s : Int32} {v : Nat} {c : Int32} : tst s v c = true ↔ (s.toInt = 60 ∧ (v : Int) < c.toInt) ∨ (s.toInt ≠ 60 ∧ s.toInt = 61 ∧ (v : Int) = c.toInt) ∨ (s.toInt ≠ 60 ∧ s.toInt ≠ 61 ∧ c.toInt < (v : Int)) := by
  unfold tst
  by_cases h : s.toInt = 60
  · rw [if_pos h, decide_eq_true_iff]; omega
  · rw [if_neg h]
    by_cases h2 : s.toInt = 61
    · rw [if_pos h2, decide_eq_true_iff]; omega
    · rw [if_neg h2, decide_eq_true_iff]; omega
def tru (K F C S : Nat → Int32) (key : Int32) (att : Nat) : Nat → Nat → Bool
  | 0, _ => true
  | n + 1, t => if (K t).toInt = 3 then !(tru K F C S key att n (F t).toInt.toNat)
    else if (K t).toInt = 5 then tst (S t) (att / 10 ^ (3 - (F t).toInt.toNat) % 10) (C t)
    else if (K t).toInt = 6 then decide ((F t).toInt ≤ key.toInt ∧ key.toInt ≤ (C t).toInt)
    else if (K t).toInt = 7 then tru K F C S key att n (F t).toInt.toNat && tru K F C S key att n (C t).toInt.toNat
    else if (K t).toInt = 8 then tru K F C S key att n (F t).toInt.toNat || tru K F C S key att n (C t).toInt.toNat
    else true
/-- the nodes below n are sound: parts stand ahead of what is over them -/
def TV (K F C : Nat → Int32) (n : Nat) : Prop := ∀ j, j < n → (3 ≤ (K j).toInt ∧ (K j).toInt ≤ 8) ∧ (0 ≤ (F j).toInt ∧ (F j).toInt ≤ 999999) ∧ (((K j).toInt = 3 ∨ 7 ≤ (K j).toInt) → (F j).toInt < j) ∧ (7 ≤ (K j).toInt → 0 ≤ (C j).toInt ∧ (C j).toInt < j)
theorem tru_fuel {K F C S : Nat → Int32} {key : Int32} {att n : Nat} (hv : TV K F C n) : ∀ (t : Nat), t < n → ∀ a b, t < a → t < b → tru K F C S key att a t = tru K F C S key att b t := by
  intro t
  induction t using Nat.strongRecOn with | ind t ih => ?_
  intro ht a b ha hb
  obtain ⟨a, rfl⟩ : ∃ a', a = a' + 1 := ⟨a - 1, by omega⟩
  obtain ⟨b, rfl⟩ : ∃ b', b = b' + 1 := ⟨b - 1, by omega⟩
  obtain ⟨⟨h1, h2⟩, ⟨h3, h4⟩, h5, h6⟩ := hv t ht
  unfold tru
  by_cases c3 : (K t).toInt = 3
  · have := h5 (Or.inl c3)
    rw [if_pos c3, if_pos c3, ih (F t).toInt.toNat (by omega) (by omega) a b (by omega) (by omega)]
  · rw [if_neg c3, if_neg c3]
    by_cases c5 : (K t).toInt = 5
    · rw [if_pos c5, if_pos c5]
    · rw [if_neg c5, if_neg c5]
      by_cases c6 : (K t).toInt = 6
      · rw [if_pos c6, if_pos c6]
      · rw [if_neg c6, if_neg c6]
        by_cases c7 : (K t).toInt = 7
        · have := h5 (Or.inr (by omega))
          have := h6 (by omega)
          rw [if_pos c7, if_pos c7, ih (F t).toInt.toNat (by omega) (by omega) a b (by omega) (by omega), ih (C t).toInt.toNat (by omega) (by omega) a b (by omega) (by omega)]
        · rw [if_neg c7, if_neg c7]
          by_cases c8 : (K t).toInt = 8
          · have := h5 (Or.inr (by omega))
            have := h6 (by omega)
            rw [if_pos c8, if_pos c8, ih (F t).toInt.toNat (by omega) (by omega) a b (by omega) (by omega), ih (C t).toInt.toNat (by omega) (by omega) a b (by omega) (by omega)]
          · rw [if_neg c8, if_neg c8]
def trt (K F C S : Nat → Int32) (key : Int32) (att t : Nat) : Bool := tru K F C S key att (t + 1) t
section TRT
variable {K F C S : Nat → Int32} {key : Int32} {att n t : Nat}
theorem trt_3 (hv : TV K F C n) (ht : t < n) (hk : (K t).toInt = 3) : trt K F C S key att t = !(trt K F C S key att (F t).toInt.toNat) := by
  obtain ⟨⟨h1, h2⟩, ⟨h3, h4⟩, h5, h6⟩ := hv t ht
  have := h5 (Or.inl hk)
  unfold trt
  rw [show tru K F C S key att (t + 1) t = !(tru K F C S key att t (F t).toInt.toNat) by rw [tru]; rw [if_pos hk]]
  rw [tru_fuel hv (F t).toInt.toNat (by omega) t ((F t).toInt.toNat + 1) (by omega) (by omega)]
theorem trt_5 (hk : (K t).toInt = 5) : trt K F C S key att t = tst (S t) (att / 10 ^ (3 - (F t).toInt.toNat) % 10) (C t) := by
  unfold trt; rw [tru, if_neg (by omega), if_pos hk]
theorem trt_6 (hk : (K t).toInt = 6) : trt K F C S key att t = decide ((F t).toInt ≤ key.toInt ∧ key.toInt ≤ (C t).toInt) := by
  unfold trt; rw [tru, if_neg (by omega), if_neg (by omega), if_pos hk]
theorem trt_7 (hv : TV K F C n) (ht : t < n) (hk : (K t).toInt = 7) : trt K F C S key att t = (trt K F C S key att (F t).toInt.toNat && trt K F C S key att (C t).toInt.toNat) := by
  obtain ⟨⟨h1, h2⟩, ⟨h3, h4⟩, h5, h6⟩ := hv t ht
  have := h5 (Or.inr (by omega))
  have := h6 (by omega)
  unfold trt
  rw [show tru K F C S key att (t + 1) t = (tru K F C S key att t (F t).toInt.toNat && tru K F C S key att t (C t).toInt.toNat) by rw [tru]; rw [if_neg (by omega), if_neg (by omega), if_neg (by omega), if_pos hk]]
  rw [tru_fuel hv (F t).toInt.toNat (by omega) t ((F t).toInt.toNat + 1) (by omega) (by omega), tru_fuel hv (C t).toInt.toNat (by omega) t ((C t).toInt.toNat + 1) (by omega) (by omega)]
theorem trt_8 (hv : TV K F C n) (ht : t < n) (hk : (K t).toInt = 8) : trt K F C S key att t = (trt K F C S key att (F t).toInt.toNat || trt K F C S key att (C t).toInt.toNat) := by
  obtain ⟨⟨h1, h2⟩, ⟨h3, h4⟩, h5, h6⟩ := hv t ht
  have := h5 (Or.inr (by omega))
  have := h6 (by omega)
  unfold trt
  rw [show tru K F C S key att (t + 1) t = (tru K F C S key att t (F t).toInt.toNat || tru K F C S key att t (C t).toInt.toNat) by rw [tru]; rw [if_neg (by omega), if_neg (by omega), if_neg (by omega), if_neg (by omega), if_pos hk]]
  rw [tru_fuel hv (F t).toInt.toNat (by omega) t ((F t).toInt.toNat + 1) (by omega) (by omega), tru_fuel hv (C t).toInt.toNat (by omega) t ((C t).toInt.toNat + 1) (by omega) (by omega)]
theorem trt_4 (hk : (K t).toInt = 4 ∨ (K t).toInt < 3 ∨ 8 < (K t).toInt) : trt K F C S key att t = true := by
  unfold trt; rw [tru, if_neg (by omega), if_neg (by omega), if_neg (by omega), if_neg (by omega), if_neg (by omega)]
end TRT
/-- where the reference's four rows of nodes lie -/
def TRf (R : Nat → Nat → Option Nat) (sh : Nat → Nat × Nat) (kA fA cA gA nk : Nat) : Prop := R 761 5 = some kA ∧ R 761 6 = some fA ∧ R 761 7 = some cA ∧ R 761 8 = some gA ∧ sh kA = (12, nk) ∧ sh fA = (12, nk) ∧ sh cA = (12, nk) ∧ sh gA = (12, nk)
theorem c_M_isSo {I : Nat → Nat → Int32} {R : Nat → Nat → Option Nat} {L : Nat → Nat → Int64} {sh : Nat → Nat × Nat} {N : Nat} (hS : ShOK sh) (hR : RfOK R) {kA fA cA gA nk nt : Nat} (hT : TRf R sh kA fA cA gA nk) (hV : TV (I kA) (I fA) (I cA) nt) (hnt : nt ≤ nk) (hnk : nk ≤ 1000000) {p att : Nat} (hp : p < 24) (hatt : I 762 (6 + 2 * p + 1) = nI att) (ha9 : att ≤ 9999) : ∀ (t : Nat), t < nt → ∀ d, t + 1 ≤ d → Me mi_M_isSo d 0 0 [.ref 761, .int (nI t), .int (nI p)] (I, R, L, sh, N) (some (.int (bI (trt (I kA) (I fA) (I cA) (I gA) (I 762 (6 + 2 * p)) att t = true)))) (I, R, L, sh, N) := by
  intro t
  induction t using Nat.strongRecOn with | ind t ih_ => ?_
  intro ht d hd
  obtain ⟨⟨h1, h2⟩, ⟨h3, h4⟩, h5, h6⟩ := hV t ht
  obtain ⟨ft, hft, hft2⟩ : ∃ ft : Nat, I fA t = nI ft ∧ (I fA t).toInt = (ft : Int) := ⟨(I fA t).toInt.toNat, eq_nI (by omega), by omega⟩
  rw [hft2] at h3 h4 h5
  refine Mt.of pn_M (Nat.le_of_ble_eq_true rfl) ?_
  show Run mi_M_isSo d 0 0 0 [(0, .ref 761), (1, .int (nI t)), (2, .int (nI p))] [] (I, R, L, sh, N) _
  refine r_aload_n (x := some 761) (pc2 := 1) d_M_isSo_0 rfl rfl ?_
  refine q_getR (x := some 762) (pc2 := 4) d_M_isSo_1 rfl k_M_9 rfl (sh_761 hS) (rf_761_0 hR) ?_
  refine r_bipush (v := nI 6) (pc2 := 6) d_M_isSo_4 rfl (by decide) ?_
  refine r_iconst (v := nI 2) (pc2 := 7) d_M_isSo_6 rfl (by decide) ?_
  refine r_iload_n (pc2 := 8) d_M_isSo_7 rfl rfl ?_
  refine q_imulN (pc2 := 9) d_M_isSo_8 rfl ?_
  refine q_iaddN (pc2 := 10) d_M_isSo_9 rfl ?_
  refine r_iconst (v := nI 1) (pc2 := 11) d_M_isSo_10 rfl (by decide) ?_
  refine q_iaddN (pc2 := 12) d_M_isSo_11 rfl ?_
  refine q_iaload (q := 6 + 2 * p + 1) (x := nI att) (pc2 := 13) d_M_isSo_12 rfl (sh_762 hS) (nI_toInt (by omega)) (by omega) hatt ?_
  refine r_aload_n (x := some 761) (pc2 := 14) d_M_isSo_13 rfl rfl ?_
  refine q_getR (x := some fA) (pc2 := 17) d_M_isSo_14 rfl k_M_25 rfl (sh_761 hS) hT.2.1 ?_
  refine r_iload_n (pc2 := 18) d_M_isSo_17 rfl rfl ?_
  refine q_iaload (q := t) (x := nI ft) (pc2 := 19) d_M_isSo_18 rfl (hT.2.2.2.2.2.1) (nI_toInt (by omega)) (by omega) hft ?_
  refine q_calls (M2 := mi_M_digit) (pc2 := 22) d_M_isSo_19 rfl k_M_97 cm_M_digit cs_M_digit rfl rfl (Nat.le_of_ble_eq_true rfl) (c_M_digit (a := att) (w := ft) (by omega) (by omega)) (d2 := d - 1) (by omega) (Nat.le_of_eq (Nat.zero_add _)) (Nat.le_of_eq (Nat.zero_add _)) ?_
  refine r_istore_n (pc2 := 23) d_M_isSo_22 rfl rfl (Nat.le_of_ble_eq_true rfl) ?_
  refine r_aload_n (x := some 761) (pc2 := 24) d_M_isSo_23 rfl rfl ?_
  refine q_getR (x := some kA) (pc2 := 27) d_M_isSo_24 rfl k_M_22 rfl (sh_761 hS) hT.1 ?_
  refine r_iload_n (pc2 := 28) d_M_isSo_27 rfl rfl ?_
  refine q_iaload (q := t) (x := I kA t) (pc2 := 29) d_M_isSo_28 rfl (hT.2.2.2.2.1) (nI_toInt (by omega)) (by omega) rfl ?_
  refine q_switch (tgt := 254) (A := (I kA t).toInt) d_M_isSo_29 rfl (rfl) (fun off t2 c1a c1b c1o c1t => ?_) (by decide) (by decide) (fun c1 => ?_)
  · have c1c : (I kA t).toInt = 3 ∨ (I kA t).toInt = 4 ∨ (I kA t).toInt = 5 ∨ (I kA t).toInt = 6 ∨ (I kA t).toInt = 7 ∨ (I kA t).toInt = 8 := by omega
    rcases c1c with c1e | c1e | c1e | c1e | c1e | c1e
    · obtain rfl : t2 = 68 := by
        have hh : (some (39 : Int)) = some off := by rw [c1e] at c1o; exact c1o
        cases hh; omega
      have e := trt_3 (S := I gA) (key := (I 762 (6 + 2 * p))) (att := att) hV ht c1e
      rw [hft2, Int.toNat_natCast] at e
      have hf7 := h5 (by omega)
      refine r_aload_n (x := some 761) (pc2 := 69) d_M_isSo_68 rfl rfl ?_
      refine r_aload_n (x := some 761) (pc2 := 70) d_M_isSo_69 rfl rfl ?_
      refine q_getR (x := some fA) (pc2 := 73) d_M_isSo_70 rfl k_M_25 rfl (sh_761 hS) hT.2.1 ?_
      refine r_iload_n (pc2 := 74) d_M_isSo_73 rfl rfl ?_
      refine q_iaload (q := t) (x := nI ft) (pc2 := 75) d_M_isSo_74 rfl (hT.2.2.2.2.2.1) (nI_toInt (by omega)) (by omega) hft ?_
      refine r_iload_n (pc2 := 76) d_M_isSo_75 rfl rfl ?_
      refine q_callv (M2 := mi_M_isSo) (pc2 := 79) d_M_isSo_76 rfl k_M_100 cm_M_isSo cv_M_isSo (sh_761 hS) (by decide) rfl rfl rfl (Nat.le_of_ble_eq_true rfl) (ih_ ft (by omega) (by omega) (d - 1) (by omega)) (d2 := d - 1) (by omega) (Nat.le_of_eq (Nat.zero_add _)) (Nat.le_of_eq (Nat.zero_add _)) ?_
      refine q_bif_ne (tgt := 86) (pc2 := 82) d_M_isSo_79 rfl rfl (fun c2 => ?_) (fun c2 => ?_)
      · refine r_iconst (v := nI 0) (pc2 := 87) d_M_isSo_86 rfl (by decide) ?_
        refine Run.ret (some (.int (nI 0))) d_M_isSo_87 ⟨_, rfl, by decide⟩ ?_
        exact ⟨by rw [bI_f (by first | exact e | (rw [e]; first | (simp [c2]; done) | (rw [tst_iff]; omega)))]; rfl, rfl⟩
      · refine r_iconst (v := nI 1) (pc2 := 83) d_M_isSo_82 rfl (by decide) ?_
        refine r_goto (tgt := 87) d_M_isSo_83 rfl ?_
        refine Run.ret (some (.int (nI 1))) d_M_isSo_87 ⟨_, rfl, by decide⟩ ?_
        exact ⟨by rw [bI_t (by first | exact e | (rw [e]; first | (simp [c2]; done) | (rw [tst_iff]; omega)))]; rfl, rfl⟩
    · obtain rfl : t2 = 254 := by
        have hh : (some (225 : Int)) = some off := by rw [c1e] at c1o; exact c1o
        cases hh; omega
      have e := trt_4 (F := I fA) (C := I cA) (S := I gA) (key := (I 762 (6 + 2 * p))) (att := att) (K := I kA) (t := t) (by omega)
      refine r_iconst (v := nI 1) (pc2 := 255) d_M_isSo_254 rfl (by decide) ?_
      refine Run.ret (some (.int (nI 1))) d_M_isSo_255 ⟨_, rfl, by decide⟩ ?_
      exact ⟨by rw [bI_t (by first | exact e | (rw [e]; first | (simp [bI]; done) | (rw [tst_iff]; omega)))]; rfl, rfl⟩
    · obtain rfl : t2 = 88 := by
        have hh : (some (59 : Int)) = some off := by rw [c1e] at c1o; exact c1o
        cases hh; omega
      have e := trt_5 (F := I fA) (C := I cA) (S := I gA) (key := (I 762 (6 + 2 * p))) (att := att) c1e
      rw [hft2, Int.toNat_natCast] at e
      refine r_aload_n (x := some 761) (pc2 := 89) d_M_isSo_88 rfl rfl ?_
      refine q_getR (x := some gA) (pc2 := 92) d_M_isSo_89 rfl k_M_31 rfl (sh_761 hS) hT.2.2.2.1 ?_
      refine r_iload_n (pc2 := 93) d_M_isSo_92 rfl rfl ?_
      refine q_iaload (q := t) (x := I gA t) (pc2 := 94) d_M_isSo_93 rfl (hT.2.2.2.2.2.2.2) (nI_toInt (by omega)) (by omega) rfl ?_
      refine r_bipush (v := nI 60) (pc2 := 96) d_M_isSo_94 rfl (by decide) ?_
      refine q_icmp_ne (tgt := 117) (A := (I gA t).toInt) (B := (60 : Int)) (pc2 := 99) d_M_isSo_96 rfl rfl (rfl) (nI_toInt (by omega)) (fun c3 => ?_) (fun c3 => ?_)
      · refine r_aload_n (x := some 761) (pc2 := 118) d_M_isSo_117 rfl rfl ?_
        refine q_getR (x := some gA) (pc2 := 121) d_M_isSo_118 rfl k_M_31 rfl (sh_761 hS) hT.2.2.2.1 ?_
        refine r_iload_n (pc2 := 122) d_M_isSo_121 rfl rfl ?_
        refine q_iaload (q := t) (x := I gA t) (pc2 := 123) d_M_isSo_122 rfl (hT.2.2.2.2.2.2.2) (nI_toInt (by omega)) (by omega) rfl ?_
        refine r_bipush (v := nI 61) (pc2 := 125) d_M_isSo_123 rfl (by decide) ?_
        refine q_icmp_ne (tgt := 146) (A := (I gA t).toInt) (B := (61 : Int)) (pc2 := 128) d_M_isSo_125 rfl rfl (rfl) (nI_toInt (by omega)) (fun c4 => ?_) (fun c4 => ?_)
        · refine r_iload_n (pc2 := 147) d_M_isSo_146 rfl rfl ?_
          refine r_aload_n (x := some 761) (pc2 := 148) d_M_isSo_147 rfl rfl ?_
          refine q_getR (x := some cA) (pc2 := 151) d_M_isSo_148 rfl k_M_28 rfl (sh_761 hS) hT.2.2.1 ?_
          refine r_iload_n (pc2 := 152) d_M_isSo_151 rfl rfl ?_
          refine q_iaload (q := t) (x := I cA t) (pc2 := 153) d_M_isSo_152 rfl (hT.2.2.2.2.2.2.1) (nI_toInt (by omega)) (by omega) rfl ?_
          refine q_icmp_le (tgt := 160) (A := ((att / 10 ^ (3 - ft) % 10 : Nat) : Int)) (B := (I cA t).toInt) (pc2 := 156) d_M_isSo_153 rfl rfl (nI_toInt (by omega)) (rfl) (fun c5 => ?_) (fun c5 => ?_)
          · refine r_iconst (v := nI 0) (pc2 := 161) d_M_isSo_160 rfl (by decide) ?_
            refine Run.ret (some (.int (nI 0))) d_M_isSo_161 ⟨_, rfl, by decide⟩ ?_
            exact ⟨by rw [bI_f (by first | exact e | (rw [e]; first | (simp [c3, c4, c5]; done) | (rw [tst_iff]; omega)))]; rfl, rfl⟩
          · refine r_iconst (v := nI 1) (pc2 := 157) d_M_isSo_156 rfl (by decide) ?_
            refine r_goto (tgt := 161) d_M_isSo_157 rfl ?_
            refine Run.ret (some (.int (nI 1))) d_M_isSo_161 ⟨_, rfl, by decide⟩ ?_
            exact ⟨by rw [bI_t (by first | exact e | (rw [e]; first | (simp [c3, c4, c5]; done) | (rw [tst_iff]; omega)))]; rfl, rfl⟩
        · refine r_iload_n (pc2 := 129) d_M_isSo_128 rfl rfl ?_
          refine r_aload_n (x := some 761) (pc2 := 130) d_M_isSo_129 rfl rfl ?_
          refine q_getR (x := some cA) (pc2 := 133) d_M_isSo_130 rfl k_M_28 rfl (sh_761 hS) hT.2.2.1 ?_
          refine r_iload_n (pc2 := 134) d_M_isSo_133 rfl rfl ?_
          refine q_iaload (q := t) (x := I cA t) (pc2 := 135) d_M_isSo_134 rfl (hT.2.2.2.2.2.2.1) (nI_toInt (by omega)) (by omega) rfl ?_
          refine q_icmp_ne (tgt := 142) (A := ((att / 10 ^ (3 - ft) % 10 : Nat) : Int)) (B := (I cA t).toInt) (pc2 := 138) d_M_isSo_135 rfl rfl (nI_toInt (by omega)) (rfl) (fun c6 => ?_) (fun c6 => ?_)
          · refine r_iconst (v := nI 0) (pc2 := 143) d_M_isSo_142 rfl (by decide) ?_
            refine r_goto (tgt := 161) d_M_isSo_143 rfl ?_
            refine Run.ret (some (.int (nI 0))) d_M_isSo_161 ⟨_, rfl, by decide⟩ ?_
            exact ⟨by rw [bI_f (by first | exact e | (rw [e]; first | (simp [c3, c4, c6]; done) | (rw [tst_iff]; omega)))]; rfl, rfl⟩
          · refine r_iconst (v := nI 1) (pc2 := 139) d_M_isSo_138 rfl (by decide) ?_
            refine r_goto (tgt := 161) d_M_isSo_139 rfl ?_
            refine Run.ret (some (.int (nI 1))) d_M_isSo_161 ⟨_, rfl, by decide⟩ ?_
            exact ⟨by rw [bI_t (by first | exact e | (rw [e]; first | (simp [c3, c4, c6]; done) | (rw [tst_iff]; omega)))]; rfl, rfl⟩
      · refine r_iload_n (pc2 := 100) d_M_isSo_99 rfl rfl ?_
        refine r_aload_n (x := some 761) (pc2 := 101) d_M_isSo_100 rfl rfl ?_
        refine q_getR (x := some cA) (pc2 := 104) d_M_isSo_101 rfl k_M_28 rfl (sh_761 hS) hT.2.2.1 ?_
        refine r_iload_n (pc2 := 105) d_M_isSo_104 rfl rfl ?_
        refine q_iaload (q := t) (x := I cA t) (pc2 := 106) d_M_isSo_105 rfl (hT.2.2.2.2.2.2.1) (nI_toInt (by omega)) (by omega) rfl ?_
        refine q_icmp_ge (tgt := 113) (A := ((att / 10 ^ (3 - ft) % 10 : Nat) : Int)) (B := (I cA t).toInt) (pc2 := 109) d_M_isSo_106 rfl rfl (nI_toInt (by omega)) (rfl) (fun c7 => ?_) (fun c7 => ?_)
        · refine r_iconst (v := nI 0) (pc2 := 114) d_M_isSo_113 rfl (by decide) ?_
          refine r_goto (tgt := 161) d_M_isSo_114 rfl ?_
          refine Run.ret (some (.int (nI 0))) d_M_isSo_161 ⟨_, rfl, by decide⟩ ?_
          exact ⟨by rw [bI_f (by first | exact e | (rw [e]; first | (simp [c3, c7]; done) | (rw [tst_iff]; omega)))]; rfl, rfl⟩
        · refine r_iconst (v := nI 1) (pc2 := 110) d_M_isSo_109 rfl (by decide) ?_
          refine r_goto (tgt := 161) d_M_isSo_110 rfl ?_
          refine Run.ret (some (.int (nI 1))) d_M_isSo_161 ⟨_, rfl, by decide⟩ ?_
          exact ⟨by rw [bI_t (by first | exact e | (rw [e]; first | (simp [c3, c7]; done) | (rw [tst_iff]; omega)))]; rfl, rfl⟩
    · obtain rfl : t2 = 162 := by
        have hh : (some (133 : Int)) = some off := by rw [c1e] at c1o; exact c1o
        cases hh; omega
      have e := trt_6 (F := I fA) (C := I cA) (S := I gA) (key := (I 762 (6 + 2 * p))) (att := att) c1e
      refine r_aload_n (x := some 761) (pc2 := 163) d_M_isSo_162 rfl rfl ?_
      refine r_iload_n (pc2 := 164) d_M_isSo_163 rfl rfl ?_
      refine q_callv (M2 := mi_M_keyOf) (pc2 := 167) d_M_isSo_164 rfl k_M_84 cm_M_keyOf cv_M_keyOf (sh_761 hS) (by decide) rfl rfl rfl (Nat.le_of_ble_eq_true rfl) (c_M_keyOf (I := I) (p := p) hS hR (by omega)) (d2 := d - 1) (by omega) (Nat.le_of_eq (Nat.zero_add _)) (Nat.le_of_eq (Nat.zero_add _)) ?_
      refine r_i2l (pc2 := 168) d_M_isSo_167 rfl ?_
      refine r_aload_n (x := some 761) (pc2 := 169) d_M_isSo_168 rfl rfl ?_
      refine q_getR (x := some fA) (pc2 := 172) d_M_isSo_169 rfl k_M_25 rfl (sh_761 hS) hT.2.1 ?_
      refine r_iload_n (pc2 := 173) d_M_isSo_172 rfl rfl ?_
      refine q_iaload (q := t) (x := nI ft) (pc2 := 174) d_M_isSo_173 rfl (hT.2.2.2.2.2.1) (nI_toInt (by omega)) (by omega) hft ?_
      refine r_i2l (pc2 := 175) d_M_isSo_174 rfl ?_
      refine r_aload_n (x := some 761) (pc2 := 176) d_M_isSo_175 rfl rfl ?_
      refine q_getR (x := some cA) (pc2 := 179) d_M_isSo_176 rfl k_M_28 rfl (sh_761 hS) hT.2.2.1 ?_
      refine r_iload_n (pc2 := 180) d_M_isSo_179 rfl rfl ?_
      refine q_iaload (q := t) (x := I cA t) (pc2 := 181) d_M_isSo_180 rfl (hT.2.2.2.2.2.2.1) (nI_toInt (by omega)) (by omega) rfl ?_
      refine r_i2l (pc2 := 182) d_M_isSo_181 rfl ?_
      refine q_calls (M2 := mi_M_in) (pc2 := 185) d_M_isSo_182 rfl k_M_68 cm_M_in cs_M_in rfl rfl (Nat.le_of_ble_eq_true rfl) (c_M_in (A := (I 762 (6 + 2 * p)).toInt) (B := ((ft : Nat) : Int)) (C := (I cA t).toInt) (toInt64_toInt (rfl)) (toInt64_toInt (nI_toInt (by omega))) (toInt64_toInt (rfl))) (d2 := d - 1) (by omega) (Nat.le_of_eq (Nat.zero_add _)) (Nat.le_of_eq (Nat.zero_add _)) ?_
      refine Run.ret (some (.int (bI (((ft : Nat) : Int) ≤ (I 762 (6 + 2 * p)).toInt ∧ (I 762 (6 + 2 * p)).toInt ≤ (I cA t).toInt)))) d_M_isSo_185 ⟨_, rfl, bI_01 _⟩ ?_
      exact ⟨congrArg (fun z => some (Value.int z)) (bI_congr (by rw [e, decide_eq_true_iff, hft2])), rfl⟩
    · obtain rfl : t2 = 186 := by
        have hh : (some (157 : Int)) = some off := by rw [c1e] at c1o; exact c1o
        cases hh; omega
      have e := trt_7 (S := I gA) (key := (I 762 (6 + 2 * p))) (att := att) hV ht c1e
      have hc2 := h6 (by omega)
      obtain ⟨ct, hct, hct2⟩ : ∃ ct : Nat, I cA t = nI ct ∧ (I cA t).toInt = (ct : Int) := ⟨(I cA t).toInt.toNat, eq_nI (by omega), by omega⟩
      rw [hct2, Int.toNat_natCast] at e
      rw [hft2, Int.toNat_natCast] at e
      have hf7 := h5 (by omega)
      refine r_aload_n (x := some 761) (pc2 := 187) d_M_isSo_186 rfl rfl ?_
      refine r_aload_n (x := some 761) (pc2 := 188) d_M_isSo_187 rfl rfl ?_
      refine q_getR (x := some fA) (pc2 := 191) d_M_isSo_188 rfl k_M_25 rfl (sh_761 hS) hT.2.1 ?_
      refine r_iload_n (pc2 := 192) d_M_isSo_191 rfl rfl ?_
      refine q_iaload (q := t) (x := nI ft) (pc2 := 193) d_M_isSo_192 rfl (hT.2.2.2.2.2.1) (nI_toInt (by omega)) (by omega) hft ?_
      refine r_iload_n (pc2 := 194) d_M_isSo_193 rfl rfl ?_
      refine q_callv (M2 := mi_M_isSo) (pc2 := 197) d_M_isSo_194 rfl k_M_100 cm_M_isSo cv_M_isSo (sh_761 hS) (by decide) rfl rfl rfl (Nat.le_of_ble_eq_true rfl) (ih_ ft (by omega) (by omega) (d - 1) (by omega)) (d2 := d - 1) (by omega) (Nat.le_of_eq (Nat.zero_add _)) (Nat.le_of_eq (Nat.zero_add _)) ?_
      refine q_bif_eq (tgt := 218) (pc2 := 200) d_M_isSo_197 rfl rfl (fun c8 => ?_) (fun c8 => ?_)
      · refine r_iconst (v := nI 0) (pc2 := 219) d_M_isSo_218 rfl (by decide) ?_
        refine Run.ret (some (.int (nI 0))) d_M_isSo_219 ⟨_, rfl, by decide⟩ ?_
        exact ⟨by rw [bI_f (by first | exact e | (rw [e]; first | (simp [c8]; done) | (rw [tst_iff]; omega)))]; rfl, rfl⟩
      · refine r_aload_n (x := some 761) (pc2 := 201) d_M_isSo_200 rfl rfl ?_
        refine r_aload_n (x := some 761) (pc2 := 202) d_M_isSo_201 rfl rfl ?_
        refine q_getR (x := some cA) (pc2 := 205) d_M_isSo_202 rfl k_M_28 rfl (sh_761 hS) hT.2.2.1 ?_
        refine r_iload_n (pc2 := 206) d_M_isSo_205 rfl rfl ?_
        refine q_iaload (q := t) (x := nI ct) (pc2 := 207) d_M_isSo_206 rfl (hT.2.2.2.2.2.2.1) (nI_toInt (by omega)) (by omega) hct ?_
        refine r_iload_n (pc2 := 208) d_M_isSo_207 rfl rfl ?_
        refine q_callv (M2 := mi_M_isSo) (pc2 := 211) d_M_isSo_208 rfl k_M_100 cm_M_isSo cv_M_isSo (sh_761 hS) (by decide) rfl rfl rfl (Nat.le_of_ble_eq_true rfl) (ih_ ct (by omega) (by omega) (d - 1) (by omega)) (d2 := d - 1) (by omega) (Nat.le_of_eq (Nat.zero_add _)) (Nat.le_of_eq (Nat.zero_add _)) ?_
        refine q_bif_eq (tgt := 218) (pc2 := 214) d_M_isSo_211 rfl rfl (fun c9 => ?_) (fun c9 => ?_)
        · refine r_iconst (v := nI 0) (pc2 := 219) d_M_isSo_218 rfl (by decide) ?_
          refine Run.ret (some (.int (nI 0))) d_M_isSo_219 ⟨_, rfl, by decide⟩ ?_
          exact ⟨by rw [bI_f (by first | exact e | (rw [e]; first | (simp [c8, c9]; done) | (rw [tst_iff]; omega)))]; rfl, rfl⟩
        · refine r_iconst (v := nI 1) (pc2 := 215) d_M_isSo_214 rfl (by decide) ?_
          refine r_goto (tgt := 219) d_M_isSo_215 rfl ?_
          refine Run.ret (some (.int (nI 1))) d_M_isSo_219 ⟨_, rfl, by decide⟩ ?_
          exact ⟨by rw [bI_t (by first | exact e | (rw [e]; first | (simp [c8, c9]; done) | (rw [tst_iff]; omega)))]; rfl, rfl⟩
    · obtain rfl : t2 = 220 := by
        have hh : (some (191 : Int)) = some off := by rw [c1e] at c1o; exact c1o
        cases hh; omega
      have e := trt_8 (S := I gA) (key := (I 762 (6 + 2 * p))) (att := att) hV ht c1e
      have hc2 := h6 (by omega)
      obtain ⟨ct, hct, hct2⟩ : ∃ ct : Nat, I cA t = nI ct ∧ (I cA t).toInt = (ct : Int) := ⟨(I cA t).toInt.toNat, eq_nI (by omega), by omega⟩
      rw [hct2, Int.toNat_natCast] at e
      rw [hft2, Int.toNat_natCast] at e
      have hf7 := h5 (by omega)
      refine r_aload_n (x := some 761) (pc2 := 221) d_M_isSo_220 rfl rfl ?_
      refine r_aload_n (x := some 761) (pc2 := 222) d_M_isSo_221 rfl rfl ?_
      refine q_getR (x := some fA) (pc2 := 225) d_M_isSo_222 rfl k_M_25 rfl (sh_761 hS) hT.2.1 ?_
      refine r_iload_n (pc2 := 226) d_M_isSo_225 rfl rfl ?_
      refine q_iaload (q := t) (x := nI ft) (pc2 := 227) d_M_isSo_226 rfl (hT.2.2.2.2.2.1) (nI_toInt (by omega)) (by omega) hft ?_
      refine r_iload_n (pc2 := 228) d_M_isSo_227 rfl rfl ?_
      refine q_callv (M2 := mi_M_isSo) (pc2 := 231) d_M_isSo_228 rfl k_M_100 cm_M_isSo cv_M_isSo (sh_761 hS) (by decide) rfl rfl rfl (Nat.le_of_ble_eq_true rfl) (ih_ ft (by omega) (by omega) (d - 1) (by omega)) (d2 := d - 1) (by omega) (Nat.le_of_eq (Nat.zero_add _)) (Nat.le_of_eq (Nat.zero_add _)) ?_
      refine q_bif_ne (tgt := 248) (pc2 := 234) d_M_isSo_231 rfl rfl (fun c10 => ?_) (fun c10 => ?_)
      · refine r_iconst (v := nI 1) (pc2 := 249) d_M_isSo_248 rfl (by decide) ?_
        refine r_goto (tgt := 253) d_M_isSo_249 rfl ?_
        refine Run.ret (some (.int (nI 1))) d_M_isSo_253 ⟨_, rfl, by decide⟩ ?_
        exact ⟨by rw [bI_t (by first | exact e | (rw [e]; first | (simp [c10]; done) | (rw [tst_iff]; omega)))]; rfl, rfl⟩
      · refine r_aload_n (x := some 761) (pc2 := 235) d_M_isSo_234 rfl rfl ?_
        refine r_aload_n (x := some 761) (pc2 := 236) d_M_isSo_235 rfl rfl ?_
        refine q_getR (x := some cA) (pc2 := 239) d_M_isSo_236 rfl k_M_28 rfl (sh_761 hS) hT.2.2.1 ?_
        refine r_iload_n (pc2 := 240) d_M_isSo_239 rfl rfl ?_
        refine q_iaload (q := t) (x := nI ct) (pc2 := 241) d_M_isSo_240 rfl (hT.2.2.2.2.2.2.1) (nI_toInt (by omega)) (by omega) hct ?_
        refine r_iload_n (pc2 := 242) d_M_isSo_241 rfl rfl ?_
        refine q_callv (M2 := mi_M_isSo) (pc2 := 245) d_M_isSo_242 rfl k_M_100 cm_M_isSo cv_M_isSo (sh_761 hS) (by decide) rfl rfl rfl (Nat.le_of_ble_eq_true rfl) (ih_ ct (by omega) (by omega) (d - 1) (by omega)) (d2 := d - 1) (by omega) (Nat.le_of_eq (Nat.zero_add _)) (Nat.le_of_eq (Nat.zero_add _)) ?_
        refine q_bif_eq (tgt := 252) (pc2 := 248) d_M_isSo_245 rfl rfl (fun c11 => ?_) (fun c11 => ?_)
        · refine r_iconst (v := nI 0) (pc2 := 253) d_M_isSo_252 rfl (by decide) ?_
          refine Run.ret (some (.int (nI 0))) d_M_isSo_253 ⟨_, rfl, by decide⟩ ?_
          exact ⟨by rw [bI_f (by first | exact e | (rw [e]; first | (simp [c10, c11]; done) | (rw [tst_iff]; omega)))]; rfl, rfl⟩
        · refine r_iconst (v := nI 1) (pc2 := 249) d_M_isSo_248 rfl (by decide) ?_
          refine r_goto (tgt := 253) d_M_isSo_249 rfl ?_
          refine Run.ret (some (.int (nI 1))) d_M_isSo_253 ⟨_, rfl, by decide⟩ ?_
          exact ⟨by rw [bI_t (by first | exact e | (rw [e]; first | (simp [c10, c11]; done) | (rw [tst_iff]; omega)))]; rfl, rfl⟩
  · have e := trt_4 (F := I fA) (C := I cA) (S := I gA) (key := (I 762 (6 + 2 * p))) (att := att) (K := I kA) (t := t) (by omega)
    refine r_iconst (v := nI 1) (pc2 := 255) d_M_isSo_254 rfl (by decide) ?_
    refine Run.ret (some (.int (nI 1))) d_M_isSo_255 ⟨_, rfl, by decide⟩ ?_
    exact ⟨by rw [bI_t (by first | exact e | (rw [e]; first | (simp [c1]; done) | (rw [tst_iff]; omega)))]; rfl, rfl⟩
