/-! THE REFERENCE: a rule spelled, on -/
theorem spIn_len {T : Nat → List Int32} {b : Bool} {t : Nat} : (T t).length ≤ (spIn T b t).length := by
  unfold spIn; split
  · simp only [List.length_cons, List.length_append]; omega
  · exact Nat.le_refl _
theorem spt_len3 {K F C S : Nat → Int32} {nt t : Nat} (hV : TV K F C nt) (ht : t < nt) (h : (K t).toInt = 3) : (spt K F C S (F t).toInt.toNat).length + 1 ≤ (spt K F C S t).length := by
  rw [spt_eq hV ht, if_pos h, List.length_cons]
  have := @spIn_len (spt K F C S) (decide (7 ≤ (K (F t).toInt.toNat).toInt)) (F t).toInt.toNat
  omega
theorem spt_len7 {K F C S : Nat → Int32} {nt t : Nat} (hV : TV K F C nt) (ht : t < nt) (h : 7 ≤ (K t).toInt) : (spt K F C S (F t).toInt.toNat).length + (spt K F C S (C t).toInt.toNat).length + 1 ≤ (spt K F C S t).length := by
  rw [spt_eq hV ht, if_neg (by omega), if_neg (by omega), if_neg (by omega), if_neg (by omega)]
  have h1 := @spIn_len (spt K F C S) (decide ((K (F t).toInt.toNat).toInt = 8)) (F t).toInt.toNat
  have h2 := @spIn_len (spt K F C S) (decide (7 ≤ (K (C t).toInt.toNat).toInt)) (C t).toInt.toNat
  have h3 := @spIn_len (spt K F C S) (decide ((K (C t).toInt.toNat).toInt = 8)) (C t).toInt.toNat
  split
  · rw [List.length_append, List.length_cons]; omega
  · rw [List.length_append, List.length_cons]; omega
theorem c_M_tellsIn0 {d : Nat} {I : Nat → Nat → Int32} {R : Nat → Nat → Option Nat} {L : Nat → Nat → Int64} {sh : Nat → Nat × Nat} {N : Nat} (hS : ShOK sh) (hR : RfOK R) {kA fA cA gA : Nat} {i : Int32} {t dT : Nat} (ihT : ∀ (l : List Int32) (J : Nat → Nat → Int32), TL I i l J → l.length + 5 * (spt (I kA) (I fA) (I cA) (I gA) t).length + 30 < 100000 → Mt mi_M_tellsTree dT 0 0 [.ref 761, .int (nI t)] (J, R, L, sh, N) (fun r h2 => r = none ∧ ∃ K, h2 = (K, R, L, sh, N) ∧ TL I i (l ++ spt (I kA) (I fA) (I cA) (I gA) t) K)) {l : List Int32} {J : Nat → Nat → Int32} (hJ : TL I i l J) (hlen : l.length + 5 * (spt (I kA) (I fA) (I cA) (I gA) t).length + 32 < 100000) (hd : dT + 1 ≤ d) (hd1 : 1 ≤ d) : Mt mi_M_tellsIn d 0 0 [.ref 761, .int (nI t), .int (nI 0)] (J, R, L, sh, N) (fun r h2 => r = none ∧ ∃ K, h2 = (K, R, L, sh, N) ∧ TL I i (l ++ spt (I kA) (I fA) (I cA) (I gA) t) K) := by
  refine Mt.of pn_M (Nat.le_of_ble_eq_true rfl) ?_
  show Run mi_M_tellsIn d 0 0 0 [(0, .ref 761), (1, .int (nI t)), (2, .int (nI 0))] [] (J, R, L, sh, N) _
  refine r_iload_n (pc2 := 1) d_M_tellsIn_0 rfl rfl ?_
  refine q_if_eq (tgt := 10) (A := (0 : Int)) (pc2 := 4) d_M_tellsIn_1 rfl rfl (nI_toInt (by omega)) (fun c1 => ?_) (fun c1 => ?_)
  rotate_left
  · exfalso; omega
  refine r_aload_n (x := some 761) (pc2 := 11) d_M_tellsIn_10 rfl rfl ?_
  refine r_iload_n (pc2 := 12) d_M_tellsIn_11 rfl rfl ?_
  refine r_callv (M2 := mi_M_tellsTree) (pc2 := 15) d_M_tellsIn_12 rfl k_M_279 cm_M_tellsTree cv_M_tellsTree (sh_761 hS) (by decide) rfl rfl rfl (Nat.le_of_ble_eq_true rfl) (ihT _ _ hJ (by (try simp only [List.length_append, List.length_cons, List.length_nil]); omega)) (d2 := dT) (by omega) (Nat.le_of_eq (Nat.zero_add _)) (Nat.le_of_eq (Nat.zero_add _)) (fun r2 h2 hq2 => ?_)
  obtain ⟨rfl, K2, rfl, hK2⟩ := hq2
  change Run _ _ _ _ _ _ [] _ _
  refine r_iload_n (pc2 := 16) d_M_tellsIn_15 rfl rfl ?_
  refine q_if_eq (tgt := 25) (A := (0 : Int)) (pc2 := 19) d_M_tellsIn_16 rfl rfl (nI_toInt (by omega)) (fun c3 => ?_) (fun c3 => ?_)
  rotate_left
  · exfalso; omega
  refine Run.ret none d_M_tellsIn_25 rfl ?_
  exact ⟨rfl, _, rfl, by simpa only [List.append_assoc, List.cons_append, List.nil_append] using hK2⟩
theorem c_M_tellsIn1 {d : Nat} {I : Nat → Nat → Int32} {R : Nat → Nat → Option Nat} {L : Nat → Nat → Int64} {sh : Nat → Nat × Nat} {N : Nat} (hS : ShOK sh) (hR : RfOK R) {kA fA cA gA : Nat} {i : Int32} {t dT : Nat} (ihT : ∀ (l : List Int32) (J : Nat → Nat → Int32), TL I i l J → l.length + 5 * (spt (I kA) (I fA) (I cA) (I gA) t).length + 30 < 100000 → Mt mi_M_tellsTree dT 0 0 [.ref 761, .int (nI t)] (J, R, L, sh, N) (fun r h2 => r = none ∧ ∃ K, h2 = (K, R, L, sh, N) ∧ TL I i (l ++ spt (I kA) (I fA) (I cA) (I gA) t) K)) {l : List Int32} {J : Nat → Nat → Int32} (hJ : TL I i l J) (hlen : l.length + 5 * (spt (I kA) (I fA) (I cA) (I gA) t).length + 32 < 100000) (hd : dT + 1 ≤ d) (hd1 : 1 ≤ d) : Mt mi_M_tellsIn d 0 0 [.ref 761, .int (nI t), .int (nI 1)] (J, R, L, sh, N) (fun r h2 => r = none ∧ ∃ K, h2 = (K, R, L, sh, N) ∧ TL I i (l ++ (nI 40 :: (spt (I kA) (I fA) (I cA) (I gA) t ++ [nI 41]))) K) := by
  refine Mt.of pn_M (Nat.le_of_ble_eq_true rfl) ?_
  show Run mi_M_tellsIn d 0 0 0 [(0, .ref 761), (1, .int (nI t)), (2, .int (nI 1))] [] (J, R, L, sh, N) _
  refine r_iload_n (pc2 := 1) d_M_tellsIn_0 rfl rfl ?_
  refine q_if_eq (tgt := 10) (A := (1 : Int)) (pc2 := 4) d_M_tellsIn_1 rfl rfl (nI_toInt (by omega)) (fun c1 => ?_) (fun c1 => ?_)
  · exfalso; omega
  refine r_aload_n (x := some 761) (pc2 := 5) d_M_tellsIn_4 rfl rfl ?_
  refine r_bipush (v := nI 40) (pc2 := 7) d_M_tellsIn_5 rfl (by decide) ?_
  refine r_callv (M2 := mi_M_tells) (pc2 := 10) d_M_tellsIn_7 rfl k_M_276 cm_M_tells cv_M_tells (sh_761 hS) (by decide) rfl rfl rfl (Nat.le_of_ble_eq_true rfl) (c_M_tells (c := nI 40) hS hR hJ (by (try simp only [List.length_append, List.length_cons, List.length_nil]); omega)) (d2 := d - 1) (by omega) (Nat.le_of_eq (Nat.zero_add _)) (Nat.le_of_eq (Nat.zero_add _)) (fun r2 h2 hq2 => ?_)
  obtain ⟨rfl, K2, rfl, hK2⟩ := hq2
  change Run _ _ _ _ _ _ [] _ _
  refine r_aload_n (x := some 761) (pc2 := 11) d_M_tellsIn_10 rfl rfl ?_
  refine r_iload_n (pc2 := 12) d_M_tellsIn_11 rfl rfl ?_
  refine r_callv (M2 := mi_M_tellsTree) (pc2 := 15) d_M_tellsIn_12 rfl k_M_279 cm_M_tellsTree cv_M_tellsTree (sh_761 hS) (by decide) rfl rfl rfl (Nat.le_of_ble_eq_true rfl) (ihT _ _ hK2 (by (try simp only [List.length_append, List.length_cons, List.length_nil]); omega)) (d2 := dT) (by omega) (Nat.le_of_eq (Nat.zero_add _)) (Nat.le_of_eq (Nat.zero_add _)) (fun r2 h2 hq2 => ?_)
  obtain ⟨rfl, K3, rfl, hK3⟩ := hq2
  change Run _ _ _ _ _ _ [] _ _
  refine r_iload_n (pc2 := 16) d_M_tellsIn_15 rfl rfl ?_
  refine q_if_eq (tgt := 25) (A := (1 : Int)) (pc2 := 19) d_M_tellsIn_16 rfl rfl (nI_toInt (by omega)) (fun c4 => ?_) (fun c4 => ?_)
  · exfalso; omega
  refine r_aload_n (x := some 761) (pc2 := 20) d_M_tellsIn_19 rfl rfl ?_
  refine r_bipush (v := nI 41) (pc2 := 22) d_M_tellsIn_20 rfl (by decide) ?_
  refine r_callv (M2 := mi_M_tells) (pc2 := 25) d_M_tellsIn_22 rfl k_M_276 cm_M_tells cv_M_tells (sh_761 hS) (by decide) rfl rfl rfl (Nat.le_of_ble_eq_true rfl) (c_M_tells (c := nI 41) hS hR hK3 (by (try simp only [List.length_append, List.length_cons, List.length_nil]); omega)) (d2 := d - 1) (by omega) (Nat.le_of_eq (Nat.zero_add _)) (Nat.le_of_eq (Nat.zero_add _)) (fun r2 h2 hq2 => ?_)
  obtain ⟨rfl, K5, rfl, hK5⟩ := hq2
  change Run _ _ _ _ _ _ [] _ _
  refine Run.ret none d_M_tellsIn_25 rfl ?_
  exact ⟨rfl, _, rfl, by simpa only [List.append_assoc, List.cons_append, List.nil_append] using hK5⟩
theorem c_M_tellsTree {I : Nat → Nat → Int32} {R : Nat → Nat → Option Nat} {L : Nat → Nat → Int64} {sh : Nat → Nat × Nat} {N : Nat} (hS : ShOK sh) (hR : RfOK R) {kA fA cA gA nk nt : Nat} (hT : TRf R sh kA fA cA gA nk) (hTn : TNe kA fA cA gA) (hV : TV (I kA) (I fA) (I cA) nt) (hnt : nt ≤ nk) (hnk : nk ≤ 1000000)  (hV2 : TV2 (I kA) (I fA) (I cA) (I gA) nt) {i : Int32} : ∀ (t : Nat), t < nt → ∀ (l : List Int32) (J : Nat → Nat → Int32), TL I i l J → l.length + 5 * (spt (I kA) (I fA) (I cA) (I gA) t).length + 30 < 100000 → ∀ d, 2 * t + 14 ≤ d → Mt mi_M_tellsTree d 0 0 [.ref 761, .int (nI t)] (J, R, L, sh, N) (fun r h2 => r = none ∧ ∃ K, h2 = (K, R, L, sh, N) ∧ TL I i (l ++ spt (I kA) (I fA) (I cA) (I gA) t) K) := by
  intro t
  induction t using Nat.strongRecOn with | ind t ih_ => ?_
  intro ht l J hJ hlen d hd
  obtain ⟨hn1, hn2, hn3, hn4⟩ := hTn
  have hG : J 762 = I 762 := hJ.1.row (by decide) (by decide) (by decide)
  have hk_ : J kA = I kA := hJ.1.row (by omega) (by omega) (by omega)
  have hf_ : J fA = I fA := hJ.1.row (by omega) (by omega) (by omega)
  have hc_ : J cA = I cA := hJ.1.row (by omega) (by omega) (by omega)
  have hg_ : J gA = I gA := hJ.1.row (by omega) (by omega) (by omega)
  obtain ⟨⟨h1, h2⟩, ⟨h3, h4⟩, h5, h6⟩ := hV t ht
  obtain ⟨g6, g5⟩ := hV2 t ht
  obtain ⟨ft, hft, hft2⟩ : ∃ ft : Nat, I fA t = nI ft ∧ (I fA t).toInt = (ft : Int) := ⟨(I fA t).toInt.toNat, eq_nI (by omega), by omega⟩
  refine Mt.of pn_M (Nat.le_of_ble_eq_true rfl) ?_
  show Run mi_M_tellsTree d 0 0 0 [(0, .ref 761), (1, .int (nI t))] [] (J, R, L, sh, N) _
  refine r_aload_n (x := some 761) (pc2 := 1) d_M_tellsTree_0 rfl rfl ?_
  refine q_getR (x := some fA) (pc2 := 4) d_M_tellsTree_1 rfl k_M_25 rfl (sh_761 hS) hT.2.1 ?_
  refine r_iload_n (pc2 := 5) d_M_tellsTree_4 rfl rfl ?_
  refine q_iaload (q := t) (x := nI ft) (pc2 := 6) d_M_tellsTree_5 rfl (hT.2.2.2.2.2.1) (nI_toInt (by omega)) (by omega) ((congrFun hf_ _).trans (hft)) ?_
  refine r_istore_n (pc2 := 7) d_M_tellsTree_6 rfl rfl (Nat.le_of_ble_eq_true rfl) ?_
  refine r_aload_n (x := some 761) (pc2 := 8) d_M_tellsTree_7 rfl rfl ?_
  refine q_getR (x := some cA) (pc2 := 11) d_M_tellsTree_8 rfl k_M_28 rfl (sh_761 hS) hT.2.2.1 ?_
  refine r_iload_n (pc2 := 12) d_M_tellsTree_11 rfl rfl ?_
  refine q_iaload (q := t) (x := I cA t) (pc2 := 13) d_M_tellsTree_12 rfl (hT.2.2.2.2.2.2.1) (nI_toInt (by omega)) (by omega) (congrFun hc_ _) ?_
  refine r_istore_n (pc2 := 14) d_M_tellsTree_13 rfl rfl (Nat.le_of_ble_eq_true rfl) ?_
  refine r_aload_n (x := some 761) (pc2 := 15) d_M_tellsTree_14 rfl rfl ?_
  refine q_getR (x := some kA) (pc2 := 18) d_M_tellsTree_15 rfl k_M_22 rfl (sh_761 hS) hT.1 ?_
  refine r_iload_n (pc2 := 19) d_M_tellsTree_18 rfl rfl ?_
  refine q_iaload (q := t) (x := I kA t) (pc2 := 20) d_M_tellsTree_19 rfl (hT.2.2.2.2.1) (nI_toInt (by omega)) (by omega) (congrFun hk_ _) ?_
  refine q_switch (tgt := 200) (A := (I kA t).toInt) d_M_tellsTree_20 rfl (rfl) (fun off t2 c1a c1b c1o c1t => ?_) (by decide) (by decide) (fun c1 => ?_)
  · have c1c : (I kA t).toInt = 3 ∨ (I kA t).toInt = 4 ∨ (I kA t).toInt = 5 ∨ (I kA t).toInt = 6 ∨ (I kA t).toInt = 7 := by omega
    rcases c1c with c1e | c1e | c1e | c1e | c1e
    · obtain rfl : t2 = 56 := by
        have hh : (some (36 : Int)) = some off := by rw [c1e] at c1o; exact c1o
        cases hh; omega
      have hsl := spt_len3 (S := I gA) hV ht (by omega)
      rw [hft2, Int.toNat_natCast] at hsl
      refine r_aload_n (x := some 761) (pc2 := 57) d_M_tellsTree_56 rfl rfl ?_
      refine r_bipush (v := nI 33) (pc2 := 59) d_M_tellsTree_57 rfl (by decide) ?_
      refine r_callv (M2 := mi_M_tells) (pc2 := 62) d_M_tellsTree_59 rfl k_M_276 cm_M_tells cv_M_tells (sh_761 hS) (by decide) rfl rfl rfl (Nat.le_of_ble_eq_true rfl) (c_M_tells (c := nI 33) hS hR hJ (by (try simp only [List.length_append, List.length_cons, List.length_nil]); omega)) (d2 := d - 1) (by omega) (Nat.le_of_eq (Nat.zero_add _)) (Nat.le_of_eq (Nat.zero_add _)) (fun r2 h2 hq2 => ?_)
      obtain ⟨rfl, K2, rfl, hK2⟩ := hq2
      change Run _ _ _ _ _ _ [] _ _
      have hGK2 : K2 762 = I 762 := hK2.1.row (by decide) (by decide) (by decide)
      have hk_K2 : K2 kA = I kA := hK2.1.row (by omega) (by omega) (by omega)
      have hf_K2 : K2 fA = I fA := hK2.1.row (by omega) (by omega) (by omega)
      have hc_K2 : K2 cA = I cA := hK2.1.row (by omega) (by omega) (by omega)
      have hg_K2 : K2 gA = I gA := hK2.1.row (by omega) (by omega) (by omega)
      refine r_aload_n (x := some 761) (pc2 := 63) d_M_tellsTree_62 rfl rfl ?_
      refine r_iload_n (pc2 := 64) d_M_tellsTree_63 rfl rfl ?_
      refine r_aload_n (x := some 761) (pc2 := 65) d_M_tellsTree_64 rfl rfl ?_
      refine q_getR (x := some kA) (pc2 := 68) d_M_tellsTree_65 rfl k_M_22 rfl (sh_761 hS) hT.1 ?_
      refine r_iload_n (pc2 := 69) d_M_tellsTree_68 rfl rfl ?_
      refine q_iaload (q := ft) (x := I kA ft) (pc2 := 70) d_M_tellsTree_69 rfl (hT.2.2.2.2.1) (nI_toInt (by omega)) (by omega) (congrFun hk_K2 _) ?_
      refine r_bipush (v := nI 7) (pc2 := 72) d_M_tellsTree_70 rfl (by decide) ?_
      refine q_icmp_lt (tgt := 79) (A := (I kA ft).toInt) (B := (7 : Int)) (pc2 := 75) d_M_tellsTree_72 rfl rfl (rfl) (nI_toInt (by omega)) (fun c3 => ?_) (fun c3 => ?_)
      · refine r_iconst (v := nI 0) (pc2 := 80) d_M_tellsTree_79 rfl (by decide) ?_
        refine r_callv (M2 := mi_M_tellsIn) (pc2 := 83) d_M_tellsTree_80 rfl k_M_282 cm_M_tellsIn cv_M_tellsIn (sh_761 hS) (by decide) rfl rfl rfl (Nat.le_of_ble_eq_true rfl) (c_M_tellsIn0 (t := ft) (dT := d - 2) hS hR (fun l J h1 h2 => ih_ ft (by omega) (by omega) l J h1 h2 (d - 2) (by omega)) hK2 (by (try simp only [List.length_append, List.length_cons, List.length_nil]); omega) (d := d - 1) (by omega) (by omega)) (d2 := d - 1) (by omega) (Nat.le_of_eq (Nat.zero_add _)) (Nat.le_of_eq (Nat.zero_add _)) (fun r2 h2 hq2 => ?_)
        obtain ⟨rfl, K4, rfl, hK4⟩ := hq2
        change Run _ _ _ _ _ _ [] _ _
        have hGK4 : K4 762 = I 762 := hK4.1.row (by decide) (by decide) (by decide)
        have hk_K4 : K4 kA = I kA := hK4.1.row (by omega) (by omega) (by omega)
        have hf_K4 : K4 fA = I fA := hK4.1.row (by omega) (by omega) (by omega)
        have hc_K4 : K4 cA = I cA := hK4.1.row (by omega) (by omega) (by omega)
        have hg_K4 : K4 gA = I gA := hK4.1.row (by omega) (by omega) (by omega)
        refine r_goto (tgt := 232) d_M_tellsTree_83 rfl ?_
        refine Run.ret none d_M_tellsTree_232 rfl ?_
        refine ⟨rfl, _, rfl, ?_⟩
        rw [spt_eq hV ht]; (repeat (first | rw [if_pos (by omega)] | rw [if_neg (by omega)])); (try unfold spIn); (try simp only [decide_eq_true_eq, hft2, Int.toNat_natCast]); (repeat (first | rw [if_pos (by omega)] | rw [if_neg (by omega)]))
        have hfin := hK4
        (try simp only [List.append_assoc, List.cons_append, List.nil_append] at hfin ⊢); (try rw [hft]); (try rw [nI_add]); exact hfin
      · refine r_iconst (v := nI 1) (pc2 := 76) d_M_tellsTree_75 rfl (by decide) ?_
        refine r_goto (tgt := 80) d_M_tellsTree_76 rfl ?_
        refine r_callv (M2 := mi_M_tellsIn) (pc2 := 83) d_M_tellsTree_80 rfl k_M_282 cm_M_tellsIn cv_M_tellsIn (sh_761 hS) (by decide) rfl rfl rfl (Nat.le_of_ble_eq_true rfl) (c_M_tellsIn1 (t := ft) (dT := d - 2) hS hR (fun l J h1 h2 => ih_ ft (by omega) (by omega) l J h1 h2 (d - 2) (by omega)) hK2 (by (try simp only [List.length_append, List.length_cons, List.length_nil]); omega) (d := d - 1) (by omega) (by omega)) (d2 := d - 1) (by omega) (Nat.le_of_eq (Nat.zero_add _)) (Nat.le_of_eq (Nat.zero_add _)) (fun r2 h2 hq2 => ?_)
        obtain ⟨rfl, K5, rfl, hK5⟩ := hq2
        change Run _ _ _ _ _ _ [] _ _
        have hGK5 : K5 762 = I 762 := hK5.1.row (by decide) (by decide) (by decide)
        have hk_K5 : K5 kA = I kA := hK5.1.row (by omega) (by omega) (by omega)
        have hf_K5 : K5 fA = I fA := hK5.1.row (by omega) (by omega) (by omega)
        have hc_K5 : K5 cA = I cA := hK5.1.row (by omega) (by omega) (by omega)
        have hg_K5 : K5 gA = I gA := hK5.1.row (by omega) (by omega) (by omega)
        refine r_goto (tgt := 232) d_M_tellsTree_83 rfl ?_
        refine Run.ret none d_M_tellsTree_232 rfl ?_
        refine ⟨rfl, _, rfl, ?_⟩
        rw [spt_eq hV ht]; (repeat (first | rw [if_pos (by omega)] | rw [if_neg (by omega)])); (try unfold spIn); (try simp only [decide_eq_true_eq, hft2, Int.toNat_natCast]); (repeat (first | rw [if_pos (by omega)] | rw [if_neg (by omega)]))
        have hfin := hK5
        (try simp only [List.append_assoc, List.cons_append, List.nil_append] at hfin ⊢); (try rw [hft]); (try rw [nI_add]); exact hfin
    · obtain rfl : t2 = 86 := by
        have hh : (some (66 : Int)) = some off := by rw [c1e] at c1o; exact c1o
        cases hh; omega
      refine r_aload_n (x := some 761) (pc2 := 87) d_M_tellsTree_86 rfl rfl ?_
      refine r_bipush (v := nI 42) (pc2 := 89) d_M_tellsTree_87 rfl (by decide) ?_
      refine r_callv (M2 := mi_M_tells) (pc2 := 92) d_M_tellsTree_89 rfl k_M_276 cm_M_tells cv_M_tells (sh_761 hS) (by decide) rfl rfl rfl (Nat.le_of_ble_eq_true rfl) (c_M_tells (c := nI 42) hS hR hJ (by (try simp only [List.length_append, List.length_cons, List.length_nil]); omega)) (d2 := d - 1) (by omega) (Nat.le_of_eq (Nat.zero_add _)) (Nat.le_of_eq (Nat.zero_add _)) (fun r2 h2 hq2 => ?_)
      obtain ⟨rfl, K6, rfl, hK6⟩ := hq2
      change Run _ _ _ _ _ _ [] _ _
      have hGK6 : K6 762 = I 762 := hK6.1.row (by decide) (by decide) (by decide)
      have hk_K6 : K6 kA = I kA := hK6.1.row (by omega) (by omega) (by omega)
      have hf_K6 : K6 fA = I fA := hK6.1.row (by omega) (by omega) (by omega)
      have hc_K6 : K6 cA = I cA := hK6.1.row (by omega) (by omega) (by omega)
      have hg_K6 : K6 gA = I gA := hK6.1.row (by omega) (by omega) (by omega)
      refine r_goto (tgt := 232) d_M_tellsTree_92 rfl ?_
      refine Run.ret none d_M_tellsTree_232 rfl ?_
      refine ⟨rfl, _, rfl, ?_⟩
      rw [spt_eq hV ht]; (repeat (first | rw [if_pos (by omega)] | rw [if_neg (by omega)])); (try unfold spIn); (try simp only [decide_eq_true_eq, hft2, Int.toNat_natCast]); (repeat (first | rw [if_pos (by omega)] | rw [if_neg (by omega)]))
      have hfin := hK6
      (try simp only [List.append_assoc, List.cons_append, List.nil_append] at hfin ⊢); (try rw [hft]); (try rw [nI_add]); exact hfin
    · obtain rfl : t2 = 95 := by
        have hh : (some (75 : Int)) = some off := by rw [c1e] at c1o; exact c1o
        cases hh; omega
      refine r_aload_n (x := some 761) (pc2 := 96) d_M_tellsTree_95 rfl rfl ?_
      refine r_bipush (v := nI 97) (pc2 := 98) d_M_tellsTree_96 rfl (by decide) ?_
      refine r_iload_n (pc2 := 99) d_M_tellsTree_98 rfl rfl ?_
      refine q_iaddN (pc2 := 100) d_M_tellsTree_99 rfl ?_
      refine r_callv (M2 := mi_M_tells) (pc2 := 103) d_M_tellsTree_100 rfl k_M_276 cm_M_tells cv_M_tells (sh_761 hS) (by decide) rfl rfl rfl (Nat.le_of_ble_eq_true rfl) (c_M_tells (c := nI (97 + ft)) hS hR hJ (by (try simp only [List.length_append, List.length_cons, List.length_nil]); omega)) (d2 := d - 1) (by omega) (Nat.le_of_eq (Nat.zero_add _)) (Nat.le_of_eq (Nat.zero_add _)) (fun r2 h2 hq2 => ?_)
      obtain ⟨rfl, K7, rfl, hK7⟩ := hq2
      change Run _ _ _ _ _ _ [] _ _
      have hGK7 : K7 762 = I 762 := hK7.1.row (by decide) (by decide) (by decide)
      have hk_K7 : K7 kA = I kA := hK7.1.row (by omega) (by omega) (by omega)
      have hf_K7 : K7 fA = I fA := hK7.1.row (by omega) (by omega) (by omega)
      have hc_K7 : K7 cA = I cA := hK7.1.row (by omega) (by omega) (by omega)
      have hg_K7 : K7 gA = I gA := hK7.1.row (by omega) (by omega) (by omega)
      refine r_aload_n (x := some 761) (pc2 := 104) d_M_tellsTree_103 rfl rfl ?_
      refine r_aload_n (x := some 761) (pc2 := 105) d_M_tellsTree_104 rfl rfl ?_
      refine q_getR (x := some gA) (pc2 := 108) d_M_tellsTree_105 rfl k_M_31 rfl (sh_761 hS) hT.2.2.2.1 ?_
      refine r_iload_n (pc2 := 109) d_M_tellsTree_108 rfl rfl ?_
      refine q_iaload (q := t) (x := I gA t) (pc2 := 110) d_M_tellsTree_109 rfl (hT.2.2.2.2.2.2.2) (nI_toInt (by omega)) (by omega) (congrFun hg_K7 _) ?_
      refine r_callv (M2 := mi_M_tells) (pc2 := 113) d_M_tellsTree_110 rfl k_M_276 cm_M_tells cv_M_tells (sh_761 hS) (by decide) rfl rfl rfl (Nat.le_of_ble_eq_true rfl) (c_M_tells (c := I gA t) hS hR hK7 (by (try simp only [List.length_append, List.length_cons, List.length_nil]); omega)) (d2 := d - 1) (by omega) (Nat.le_of_eq (Nat.zero_add _)) (Nat.le_of_eq (Nat.zero_add _)) (fun r2 h2 hq2 => ?_)
      obtain ⟨rfl, K8, rfl, hK8⟩ := hq2
      change Run _ _ _ _ _ _ [] _ _
      have hGK8 : K8 762 = I 762 := hK8.1.row (by decide) (by decide) (by decide)
      have hk_K8 : K8 kA = I kA := hK8.1.row (by omega) (by omega) (by omega)
      have hf_K8 : K8 fA = I fA := hK8.1.row (by omega) (by omega) (by omega)
      have hc_K8 : K8 cA = I cA := hK8.1.row (by omega) (by omega) (by omega)
      have hg_K8 : K8 gA = I gA := hK8.1.row (by omega) (by omega) (by omega)
      refine r_aload_n (x := some 761) (pc2 := 114) d_M_tellsTree_113 rfl rfl ?_
      refine r_bipush (v := nI 48) (pc2 := 116) d_M_tellsTree_114 rfl (by decide) ?_
      refine r_iload_n (pc2 := 117) d_M_tellsTree_116 rfl rfl ?_
      refine r_iadd (pc2 := 118) d_M_tellsTree_117 rfl ?_
      refine r_callv (M2 := mi_M_tells) (pc2 := 121) d_M_tellsTree_118 rfl k_M_276 cm_M_tells cv_M_tells (sh_761 hS) (by decide) rfl rfl rfl (Nat.le_of_ble_eq_true rfl) (c_M_tells (c := (nI 48) + (I cA t)) hS hR hK8 (by (try simp only [List.length_append, List.length_cons, List.length_nil]); omega)) (d2 := d - 1) (by omega) (Nat.le_of_eq (Nat.zero_add _)) (Nat.le_of_eq (Nat.zero_add _)) (fun r2 h2 hq2 => ?_)
      obtain ⟨rfl, K9, rfl, hK9⟩ := hq2
      change Run _ _ _ _ _ _ [] _ _
      have hGK9 : K9 762 = I 762 := hK9.1.row (by decide) (by decide) (by decide)
      have hk_K9 : K9 kA = I kA := hK9.1.row (by omega) (by omega) (by omega)
      have hf_K9 : K9 fA = I fA := hK9.1.row (by omega) (by omega) (by omega)
      have hc_K9 : K9 cA = I cA := hK9.1.row (by omega) (by omega) (by omega)
      have hg_K9 : K9 gA = I gA := hK9.1.row (by omega) (by omega) (by omega)
      refine r_goto (tgt := 232) d_M_tellsTree_121 rfl ?_
      refine Run.ret none d_M_tellsTree_232 rfl ?_
      refine ⟨rfl, _, rfl, ?_⟩
      rw [spt_eq hV ht]; (repeat (first | rw [if_pos (by omega)] | rw [if_neg (by omega)])); (try unfold spIn); (try simp only [decide_eq_true_eq, hft2, Int.toNat_natCast]); (repeat (first | rw [if_pos (by omega)] | rw [if_neg (by omega)]))
      have hfin := hK9
      (try simp only [List.append_assoc, List.cons_append, List.nil_append] at hfin ⊢); (try rw [hft]); (try rw [nI_add]); exact hfin
    · obtain rfl : t2 = 124 := by
        have hh : (some (104 : Int)) = some off := by rw [c1e] at c1o; exact c1o
        cases hh; omega
      obtain ⟨ct, hct, hct2⟩ : ∃ ct : Nat, I cA t = nI ct ∧ (I cA t).toInt = (ct : Int) := ⟨(I cA t).toInt.toNat, eq_nI (by omega), by omega⟩
      rw [hct]
      refine r_aload_n (x := some 761) (pc2 := 125) d_M_tellsTree_124 rfl rfl ?_
      refine r_bipush (v := nI 35) (pc2 := 127) d_M_tellsTree_125 rfl (by decide) ?_
      refine r_callv (M2 := mi_M_tells) (pc2 := 130) d_M_tellsTree_127 rfl k_M_276 cm_M_tells cv_M_tells (sh_761 hS) (by decide) rfl rfl rfl (Nat.le_of_ble_eq_true rfl) (c_M_tells (c := nI 35) hS hR hJ (by (try simp only [List.length_append, List.length_cons, List.length_nil]); omega)) (d2 := d - 1) (by omega) (Nat.le_of_eq (Nat.zero_add _)) (Nat.le_of_eq (Nat.zero_add _)) (fun r2 h2 hq2 => ?_)
      obtain ⟨rfl, K10, rfl, hK10⟩ := hq2
      change Run _ _ _ _ _ _ [] _ _
      have hGK10 : K10 762 = I 762 := hK10.1.row (by decide) (by decide) (by decide)
      have hk_K10 : K10 kA = I kA := hK10.1.row (by omega) (by omega) (by omega)
      have hf_K10 : K10 fA = I fA := hK10.1.row (by omega) (by omega) (by omega)
      have hc_K10 : K10 cA = I cA := hK10.1.row (by omega) (by omega) (by omega)
      have hg_K10 : K10 gA = I gA := hK10.1.row (by omega) (by omega) (by omega)
      refine r_aload_n (x := some 761) (pc2 := 131) d_M_tellsTree_130 rfl rfl ?_
      refine r_iload_n (pc2 := 132) d_M_tellsTree_131 rfl rfl ?_
      have hln11 : (spn ft).length ≤ 7 := spn_len
      refine r_callv (M2 := mi_M_tellsNumber) (pc2 := 135) d_M_tellsTree_132 rfl k_M_272 cm_M_tellsNumber cv_M_tellsNumber (sh_761 hS) (by decide) rfl rfl rfl (Nat.le_of_ble_eq_true rfl) (c_M_tellsNumber hS hR 6 ft (by omega) (by decide) _ _ hK10 (by (try simp only [List.length_append, List.length_cons, List.length_nil]); omega) (d - 1) (by omega)) (d2 := d - 1) (by omega) (Nat.le_of_eq (Nat.zero_add _)) (Nat.le_of_eq (Nat.zero_add _)) (fun r2 h2 hq2 => ?_)
      obtain ⟨rfl, K11, rfl, hK11⟩ := hq2
      change Run _ _ _ _ _ _ [] _ _
      have hGK11 : K11 762 = I 762 := hK11.1.row (by decide) (by decide) (by decide)
      have hk_K11 : K11 kA = I kA := hK11.1.row (by omega) (by omega) (by omega)
      have hf_K11 : K11 fA = I fA := hK11.1.row (by omega) (by omega) (by omega)
      have hc_K11 : K11 cA = I cA := hK11.1.row (by omega) (by omega) (by omega)
      have hg_K11 : K11 gA = I gA := hK11.1.row (by omega) (by omega) (by omega)
      refine r_aload_n (x := some 761) (pc2 := 136) d_M_tellsTree_135 rfl rfl ?_
      refine r_bipush (v := nI 45) (pc2 := 138) d_M_tellsTree_136 rfl (by decide) ?_
      refine r_callv (M2 := mi_M_tells) (pc2 := 141) d_M_tellsTree_138 rfl k_M_276 cm_M_tells cv_M_tells (sh_761 hS) (by decide) rfl rfl rfl (Nat.le_of_ble_eq_true rfl) (c_M_tells (c := nI 45) hS hR hK11 (by (try simp only [List.length_append, List.length_cons, List.length_nil]); omega)) (d2 := d - 1) (by omega) (Nat.le_of_eq (Nat.zero_add _)) (Nat.le_of_eq (Nat.zero_add _)) (fun r2 h2 hq2 => ?_)
      obtain ⟨rfl, K12, rfl, hK12⟩ := hq2
      change Run _ _ _ _ _ _ [] _ _
      have hGK12 : K12 762 = I 762 := hK12.1.row (by decide) (by decide) (by decide)
      have hk_K12 : K12 kA = I kA := hK12.1.row (by omega) (by omega) (by omega)
      have hf_K12 : K12 fA = I fA := hK12.1.row (by omega) (by omega) (by omega)
      have hc_K12 : K12 cA = I cA := hK12.1.row (by omega) (by omega) (by omega)
      have hg_K12 : K12 gA = I gA := hK12.1.row (by omega) (by omega) (by omega)
      refine r_aload_n (x := some 761) (pc2 := 142) d_M_tellsTree_141 rfl rfl ?_
      refine r_iload_n (pc2 := 143) d_M_tellsTree_142 rfl rfl ?_
      have hln13 : (spn ct).length ≤ 7 := spn_len
      refine r_callv (M2 := mi_M_tellsNumber) (pc2 := 146) d_M_tellsTree_143 rfl k_M_272 cm_M_tellsNumber cv_M_tellsNumber (sh_761 hS) (by decide) rfl rfl rfl (Nat.le_of_ble_eq_true rfl) (c_M_tellsNumber hS hR 6 ct (by omega) (by decide) _ _ hK12 (by (try simp only [List.length_append, List.length_cons, List.length_nil]); omega) (d - 1) (by omega)) (d2 := d - 1) (by omega) (Nat.le_of_eq (Nat.zero_add _)) (Nat.le_of_eq (Nat.zero_add _)) (fun r2 h2 hq2 => ?_)
      obtain ⟨rfl, K13, rfl, hK13⟩ := hq2
      change Run _ _ _ _ _ _ [] _ _
      have hGK13 : K13 762 = I 762 := hK13.1.row (by decide) (by decide) (by decide)
      have hk_K13 : K13 kA = I kA := hK13.1.row (by omega) (by omega) (by omega)
      have hf_K13 : K13 fA = I fA := hK13.1.row (by omega) (by omega) (by omega)
      have hc_K13 : K13 cA = I cA := hK13.1.row (by omega) (by omega) (by omega)
      have hg_K13 : K13 gA = I gA := hK13.1.row (by omega) (by omega) (by omega)
      refine r_goto (tgt := 232) d_M_tellsTree_146 rfl ?_
      refine Run.ret none d_M_tellsTree_232 rfl ?_
      refine ⟨rfl, _, rfl, ?_⟩
      rw [spt_eq hV ht]; (repeat (first | rw [if_pos (by omega)] | rw [if_neg (by omega)])); (try unfold spIn); (try simp only [decide_eq_true_eq, hft2, Int.toNat_natCast, hct2]); (repeat (first | rw [if_pos (by omega)] | rw [if_neg (by omega)]))
      have hfin := hK13
      (try simp only [List.append_assoc, List.cons_append, List.nil_append] at hfin ⊢); (try rw [hft]); (try rw [nI_add]); exact hfin
    · obtain rfl : t2 = 149 := by
        have hh : (some (129 : Int)) = some off := by rw [c1e] at c1o; exact c1o
        cases hh; omega
      obtain ⟨ct, hct, hct2⟩ : ∃ ct : Nat, I cA t = nI ct ∧ (I cA t).toInt = (ct : Int) := ⟨(I cA t).toInt.toNat, eq_nI (by omega), by omega⟩
      rw [hct]
      have hsl := spt_len7 (S := I gA) hV ht (by omega)
      rw [hft2, hct2, Int.toNat_natCast, Int.toNat_natCast] at hsl
      refine r_aload_n (x := some 761) (pc2 := 150) d_M_tellsTree_149 rfl rfl ?_
      refine r_iload_n (pc2 := 151) d_M_tellsTree_150 rfl rfl ?_
      refine r_aload_n (x := some 761) (pc2 := 152) d_M_tellsTree_151 rfl rfl ?_
      refine q_getR (x := some kA) (pc2 := 155) d_M_tellsTree_152 rfl k_M_22 rfl (sh_761 hS) hT.1 ?_
      refine r_iload_n (pc2 := 156) d_M_tellsTree_155 rfl rfl ?_
      refine q_iaload (q := ft) (x := I kA ft) (pc2 := 157) d_M_tellsTree_156 rfl (hT.2.2.2.2.1) (nI_toInt (by omega)) (by omega) (congrFun hk_ _) ?_
      refine r_bipush (v := nI 8) (pc2 := 159) d_M_tellsTree_157 rfl (by decide) ?_
      refine q_icmp_ne (tgt := 166) (A := (I kA ft).toInt) (B := (8 : Int)) (pc2 := 162) d_M_tellsTree_159 rfl rfl (rfl) (nI_toInt (by omega)) (fun c14 => ?_) (fun c14 => ?_)
      · refine r_iconst (v := nI 0) (pc2 := 167) d_M_tellsTree_166 rfl (by decide) ?_
        refine r_callv (M2 := mi_M_tellsIn) (pc2 := 170) d_M_tellsTree_167 rfl k_M_282 cm_M_tellsIn cv_M_tellsIn (sh_761 hS) (by decide) rfl rfl rfl (Nat.le_of_ble_eq_true rfl) (c_M_tellsIn0 (t := ft) (dT := d - 2) hS hR (fun l J h1 h2 => ih_ ft (by omega) (by omega) l J h1 h2 (d - 2) (by omega)) hJ (by (try simp only [List.length_append, List.length_cons, List.length_nil]); omega) (d := d - 1) (by omega) (by omega)) (d2 := d - 1) (by omega) (Nat.le_of_eq (Nat.zero_add _)) (Nat.le_of_eq (Nat.zero_add _)) (fun r2 h2 hq2 => ?_)
        obtain ⟨rfl, K15, rfl, hK15⟩ := hq2
        change Run _ _ _ _ _ _ [] _ _
        have hGK15 : K15 762 = I 762 := hK15.1.row (by decide) (by decide) (by decide)
        have hk_K15 : K15 kA = I kA := hK15.1.row (by omega) (by omega) (by omega)
        have hf_K15 : K15 fA = I fA := hK15.1.row (by omega) (by omega) (by omega)
        have hc_K15 : K15 cA = I cA := hK15.1.row (by omega) (by omega) (by omega)
        have hg_K15 : K15 gA = I gA := hK15.1.row (by omega) (by omega) (by omega)
        refine r_aload_n (x := some 761) (pc2 := 171) d_M_tellsTree_170 rfl rfl ?_
        refine r_bipush (v := nI 38) (pc2 := 173) d_M_tellsTree_171 rfl (by decide) ?_
        refine r_callv (M2 := mi_M_tells) (pc2 := 176) d_M_tellsTree_173 rfl k_M_276 cm_M_tells cv_M_tells (sh_761 hS) (by decide) rfl rfl rfl (Nat.le_of_ble_eq_true rfl) (c_M_tells (c := nI 38) hS hR hK15 (by (try simp only [List.length_append, List.length_cons, List.length_nil]); omega)) (d2 := d - 1) (by omega) (Nat.le_of_eq (Nat.zero_add _)) (Nat.le_of_eq (Nat.zero_add _)) (fun r2 h2 hq2 => ?_)
        obtain ⟨rfl, K16, rfl, hK16⟩ := hq2
        change Run _ _ _ _ _ _ [] _ _
        have hGK16 : K16 762 = I 762 := hK16.1.row (by decide) (by decide) (by decide)
        have hk_K16 : K16 kA = I kA := hK16.1.row (by omega) (by omega) (by omega)
        have hf_K16 : K16 fA = I fA := hK16.1.row (by omega) (by omega) (by omega)
        have hc_K16 : K16 cA = I cA := hK16.1.row (by omega) (by omega) (by omega)
        have hg_K16 : K16 gA = I gA := hK16.1.row (by omega) (by omega) (by omega)
        refine r_aload_n (x := some 761) (pc2 := 177) d_M_tellsTree_176 rfl rfl ?_
        refine r_iload_n (pc2 := 178) d_M_tellsTree_177 rfl rfl ?_
        refine r_aload_n (x := some 761) (pc2 := 179) d_M_tellsTree_178 rfl rfl ?_
        refine q_getR (x := some kA) (pc2 := 182) d_M_tellsTree_179 rfl k_M_22 rfl (sh_761 hS) hT.1 ?_
        refine r_iload_n (pc2 := 183) d_M_tellsTree_182 rfl rfl ?_
        refine q_iaload (q := ct) (x := I kA ct) (pc2 := 184) d_M_tellsTree_183 rfl (hT.2.2.2.2.1) (nI_toInt (by omega)) (by omega) (congrFun hk_K16 _) ?_
        refine r_bipush (v := nI 7) (pc2 := 186) d_M_tellsTree_184 rfl (by decide) ?_
        refine q_icmp_lt (tgt := 193) (A := (I kA ct).toInt) (B := (7 : Int)) (pc2 := 189) d_M_tellsTree_186 rfl rfl (rfl) (nI_toInt (by omega)) (fun c17 => ?_) (fun c17 => ?_)
        · refine r_iconst (v := nI 0) (pc2 := 194) d_M_tellsTree_193 rfl (by decide) ?_
          refine r_callv (M2 := mi_M_tellsIn) (pc2 := 197) d_M_tellsTree_194 rfl k_M_282 cm_M_tellsIn cv_M_tellsIn (sh_761 hS) (by decide) rfl rfl rfl (Nat.le_of_ble_eq_true rfl) (c_M_tellsIn0 (t := ct) (dT := d - 2) hS hR (fun l J h1 h2 => ih_ ct (by omega) (by omega) l J h1 h2 (d - 2) (by omega)) hK16 (by (try simp only [List.length_append, List.length_cons, List.length_nil]); omega) (d := d - 1) (by omega) (by omega)) (d2 := d - 1) (by omega) (Nat.le_of_eq (Nat.zero_add _)) (Nat.le_of_eq (Nat.zero_add _)) (fun r2 h2 hq2 => ?_)
          obtain ⟨rfl, K18, rfl, hK18⟩ := hq2
          change Run _ _ _ _ _ _ [] _ _
          have hGK18 : K18 762 = I 762 := hK18.1.row (by decide) (by decide) (by decide)
          have hk_K18 : K18 kA = I kA := hK18.1.row (by omega) (by omega) (by omega)
          have hf_K18 : K18 fA = I fA := hK18.1.row (by omega) (by omega) (by omega)
          have hc_K18 : K18 cA = I cA := hK18.1.row (by omega) (by omega) (by omega)
          have hg_K18 : K18 gA = I gA := hK18.1.row (by omega) (by omega) (by omega)
          refine r_goto (tgt := 232) d_M_tellsTree_197 rfl ?_
          refine Run.ret none d_M_tellsTree_232 rfl ?_
          refine ⟨rfl, _, rfl, ?_⟩
          rw [spt_eq hV ht]; (repeat (first | rw [if_pos (by omega)] | rw [if_neg (by omega)])); (try unfold spIn); (try simp only [decide_eq_true_eq, hft2, Int.toNat_natCast, hct2]); (repeat (first | rw [if_pos (by omega)] | rw [if_neg (by omega)]))
          have hfin := hK18
          (try simp only [List.append_assoc, List.cons_append, List.nil_append] at hfin ⊢); (try rw [hft]); (try rw [nI_add]); exact hfin
        · refine r_iconst (v := nI 1) (pc2 := 190) d_M_tellsTree_189 rfl (by decide) ?_
          refine r_goto (tgt := 194) d_M_tellsTree_190 rfl ?_
          refine r_callv (M2 := mi_M_tellsIn) (pc2 := 197) d_M_tellsTree_194 rfl k_M_282 cm_M_tellsIn cv_M_tellsIn (sh_761 hS) (by decide) rfl rfl rfl (Nat.le_of_ble_eq_true rfl) (c_M_tellsIn1 (t := ct) (dT := d - 2) hS hR (fun l J h1 h2 => ih_ ct (by omega) (by omega) l J h1 h2 (d - 2) (by omega)) hK16 (by (try simp only [List.length_append, List.length_cons, List.length_nil]); omega) (d := d - 1) (by omega) (by omega)) (d2 := d - 1) (by omega) (Nat.le_of_eq (Nat.zero_add _)) (Nat.le_of_eq (Nat.zero_add _)) (fun r2 h2 hq2 => ?_)
          obtain ⟨rfl, K19, rfl, hK19⟩ := hq2
          change Run _ _ _ _ _ _ [] _ _
          have hGK19 : K19 762 = I 762 := hK19.1.row (by decide) (by decide) (by decide)
          have hk_K19 : K19 kA = I kA := hK19.1.row (by omega) (by omega) (by omega)
          have hf_K19 : K19 fA = I fA := hK19.1.row (by omega) (by omega) (by omega)
          have hc_K19 : K19 cA = I cA := hK19.1.row (by omega) (by omega) (by omega)
          have hg_K19 : K19 gA = I gA := hK19.1.row (by omega) (by omega) (by omega)
          refine r_goto (tgt := 232) d_M_tellsTree_197 rfl ?_
          refine Run.ret none d_M_tellsTree_232 rfl ?_
          refine ⟨rfl, _, rfl, ?_⟩
          rw [spt_eq hV ht]; (repeat (first | rw [if_pos (by omega)] | rw [if_neg (by omega)])); (try unfold spIn); (try simp only [decide_eq_true_eq, hft2, Int.toNat_natCast, hct2]); (repeat (first | rw [if_pos (by omega)] | rw [if_neg (by omega)]))
          have hfin := hK19
          (try simp only [List.append_assoc, List.cons_append, List.nil_append] at hfin ⊢); (try rw [hft]); (try rw [nI_add]); exact hfin
      · refine r_iconst (v := nI 1) (pc2 := 163) d_M_tellsTree_162 rfl (by decide) ?_
        refine r_goto (tgt := 167) d_M_tellsTree_163 rfl ?_
        refine r_callv (M2 := mi_M_tellsIn) (pc2 := 170) d_M_tellsTree_167 rfl k_M_282 cm_M_tellsIn cv_M_tellsIn (sh_761 hS) (by decide) rfl rfl rfl (Nat.le_of_ble_eq_true rfl) (c_M_tellsIn1 (t := ft) (dT := d - 2) hS hR (fun l J h1 h2 => ih_ ft (by omega) (by omega) l J h1 h2 (d - 2) (by omega)) hJ (by (try simp only [List.length_append, List.length_cons, List.length_nil]); omega) (d := d - 1) (by omega) (by omega)) (d2 := d - 1) (by omega) (Nat.le_of_eq (Nat.zero_add _)) (Nat.le_of_eq (Nat.zero_add _)) (fun r2 h2 hq2 => ?_)
        obtain ⟨rfl, K20, rfl, hK20⟩ := hq2
        change Run _ _ _ _ _ _ [] _ _
        have hGK20 : K20 762 = I 762 := hK20.1.row (by decide) (by decide) (by decide)
        have hk_K20 : K20 kA = I kA := hK20.1.row (by omega) (by omega) (by omega)
        have hf_K20 : K20 fA = I fA := hK20.1.row (by omega) (by omega) (by omega)
        have hc_K20 : K20 cA = I cA := hK20.1.row (by omega) (by omega) (by omega)
        have hg_K20 : K20 gA = I gA := hK20.1.row (by omega) (by omega) (by omega)
        refine r_aload_n (x := some 761) (pc2 := 171) d_M_tellsTree_170 rfl rfl ?_
        refine r_bipush (v := nI 38) (pc2 := 173) d_M_tellsTree_171 rfl (by decide) ?_
        refine r_callv (M2 := mi_M_tells) (pc2 := 176) d_M_tellsTree_173 rfl k_M_276 cm_M_tells cv_M_tells (sh_761 hS) (by decide) rfl rfl rfl (Nat.le_of_ble_eq_true rfl) (c_M_tells (c := nI 38) hS hR hK20 (by (try simp only [List.length_append, List.length_cons, List.length_nil]); omega)) (d2 := d - 1) (by omega) (Nat.le_of_eq (Nat.zero_add _)) (Nat.le_of_eq (Nat.zero_add _)) (fun r2 h2 hq2 => ?_)
        obtain ⟨rfl, K21, rfl, hK21⟩ := hq2
        change Run _ _ _ _ _ _ [] _ _
        have hGK21 : K21 762 = I 762 := hK21.1.row (by decide) (by decide) (by decide)
        have hk_K21 : K21 kA = I kA := hK21.1.row (by omega) (by omega) (by omega)
        have hf_K21 : K21 fA = I fA := hK21.1.row (by omega) (by omega) (by omega)
        have hc_K21 : K21 cA = I cA := hK21.1.row (by omega) (by omega) (by omega)
        have hg_K21 : K21 gA = I gA := hK21.1.row (by omega) (by omega) (by omega)
        refine r_aload_n (x := some 761) (pc2 := 177) d_M_tellsTree_176 rfl rfl ?_
        refine r_iload_n (pc2 := 178) d_M_tellsTree_177 rfl rfl ?_
        refine r_aload_n (x := some 761) (pc2 := 179) d_M_tellsTree_178 rfl rfl ?_
        refine q_getR (x := some kA) (pc2 := 182) d_M_tellsTree_179 rfl k_M_22 rfl (sh_761 hS) hT.1 ?_
        refine r_iload_n (pc2 := 183) d_M_tellsTree_182 rfl rfl ?_
        refine q_iaload (q := ct) (x := I kA ct) (pc2 := 184) d_M_tellsTree_183 rfl (hT.2.2.2.2.1) (nI_toInt (by omega)) (by omega) (congrFun hk_K21 _) ?_
        refine r_bipush (v := nI 7) (pc2 := 186) d_M_tellsTree_184 rfl (by decide) ?_
        refine q_icmp_lt (tgt := 193) (A := (I kA ct).toInt) (B := (7 : Int)) (pc2 := 189) d_M_tellsTree_186 rfl rfl (rfl) (nI_toInt (by omega)) (fun c22 => ?_) (fun c22 => ?_)
        · refine r_iconst (v := nI 0) (pc2 := 194) d_M_tellsTree_193 rfl (by decide) ?_
          refine r_callv (M2 := mi_M_tellsIn) (pc2 := 197) d_M_tellsTree_194 rfl k_M_282 cm_M_tellsIn cv_M_tellsIn (sh_761 hS) (by decide) rfl rfl rfl (Nat.le_of_ble_eq_true rfl) (c_M_tellsIn0 (t := ct) (dT := d - 2) hS hR (fun l J h1 h2 => ih_ ct (by omega) (by omega) l J h1 h2 (d - 2) (by omega)) hK21 (by (try simp only [List.length_append, List.length_cons, List.length_nil]); omega) (d := d - 1) (by omega) (by omega)) (d2 := d - 1) (by omega) (Nat.le_of_eq (Nat.zero_add _)) (Nat.le_of_eq (Nat.zero_add _)) (fun r2 h2 hq2 => ?_)
          obtain ⟨rfl, K23, rfl, hK23⟩ := hq2
          change Run _ _ _ _ _ _ [] _ _
          have hGK23 : K23 762 = I 762 := hK23.1.row (by decide) (by decide) (by decide)
          have hk_K23 : K23 kA = I kA := hK23.1.row (by omega) (by omega) (by omega)
          have hf_K23 : K23 fA = I fA := hK23.1.row (by omega) (by omega) (by omega)
          have hc_K23 : K23 cA = I cA := hK23.1.row (by omega) (by omega) (by omega)
          have hg_K23 : K23 gA = I gA := hK23.1.row (by omega) (by omega) (by omega)
          refine r_goto (tgt := 232) d_M_tellsTree_197 rfl ?_
          refine Run.ret none d_M_tellsTree_232 rfl ?_
          refine ⟨rfl, _, rfl, ?_⟩
          rw [spt_eq hV ht]; (repeat (first | rw [if_pos (by omega)] | rw [if_neg (by omega)])); (try unfold spIn); (try simp only [decide_eq_true_eq, hft2, Int.toNat_natCast, hct2]); (repeat (first | rw [if_pos (by omega)] | rw [if_neg (by omega)]))
          have hfin := hK23
          (try simp only [List.append_assoc, List.cons_append, List.nil_append] at hfin ⊢); (try rw [hft]); (try rw [nI_add]); exact hfin
        · refine r_iconst (v := nI 1) (pc2 := 190) d_M_tellsTree_189 rfl (by decide) ?_
          refine r_goto (tgt := 194) d_M_tellsTree_190 rfl ?_
          refine r_callv (M2 := mi_M_tellsIn) (pc2 := 197) d_M_tellsTree_194 rfl k_M_282 cm_M_tellsIn cv_M_tellsIn (sh_761 hS) (by decide) rfl rfl rfl (Nat.le_of_ble_eq_true rfl) (c_M_tellsIn1 (t := ct) (dT := d - 2) hS hR (fun l J h1 h2 => ih_ ct (by omega) (by omega) l J h1 h2 (d - 2) (by omega)) hK21 (by (try simp only [List.length_append, List.length_cons, List.length_nil]); omega) (d := d - 1) (by omega) (by omega)) (d2 := d - 1) (by omega) (Nat.le_of_eq (Nat.zero_add _)) (Nat.le_of_eq (Nat.zero_add _)) (fun r2 h2 hq2 => ?_)
          obtain ⟨rfl, K24, rfl, hK24⟩ := hq2
          change Run _ _ _ _ _ _ [] _ _
          have hGK24 : K24 762 = I 762 := hK24.1.row (by decide) (by decide) (by decide)
          have hk_K24 : K24 kA = I kA := hK24.1.row (by omega) (by omega) (by omega)
          have hf_K24 : K24 fA = I fA := hK24.1.row (by omega) (by omega) (by omega)
          have hc_K24 : K24 cA = I cA := hK24.1.row (by omega) (by omega) (by omega)
          have hg_K24 : K24 gA = I gA := hK24.1.row (by omega) (by omega) (by omega)
          refine r_goto (tgt := 232) d_M_tellsTree_197 rfl ?_
          refine Run.ret none d_M_tellsTree_232 rfl ?_
          refine ⟨rfl, _, rfl, ?_⟩
          rw [spt_eq hV ht]; (repeat (first | rw [if_pos (by omega)] | rw [if_neg (by omega)])); (try unfold spIn); (try simp only [decide_eq_true_eq, hft2, Int.toNat_natCast, hct2]); (repeat (first | rw [if_pos (by omega)] | rw [if_neg (by omega)]))
          have hfin := hK24
          (try simp only [List.append_assoc, List.cons_append, List.nil_append] at hfin ⊢); (try rw [hft]); (try rw [nI_add]); exact hfin
  · obtain ⟨ct, hct, hct2⟩ : ∃ ct : Nat, I cA t = nI ct ∧ (I cA t).toInt = (ct : Int) := ⟨(I cA t).toInt.toNat, eq_nI (by omega), by omega⟩
    rw [hct]
    have hsl := spt_len7 (S := I gA) hV ht (by omega)
    rw [hft2, hct2, Int.toNat_natCast, Int.toNat_natCast] at hsl
    refine r_aload_n (x := some 761) (pc2 := 201) d_M_tellsTree_200 rfl rfl ?_
    refine r_iload_n (pc2 := 202) d_M_tellsTree_201 rfl rfl ?_
    refine r_callv (M2 := mi_M_tellsTree) (pc2 := 205) d_M_tellsTree_202 rfl k_M_279 cm_M_tellsTree cv_M_tellsTree (sh_761 hS) (by decide) rfl rfl rfl (Nat.le_of_ble_eq_true rfl) (ih_ ft (by omega) (by omega) _ _ hJ (by (try simp only [List.length_append, List.length_cons, List.length_nil]); omega) (d - 1) (by omega)) (d2 := d - 1) (by omega) (Nat.le_of_eq (Nat.zero_add _)) (Nat.le_of_eq (Nat.zero_add _)) (fun r2 h2 hq2 => ?_)
    obtain ⟨rfl, K25, rfl, hK25⟩ := hq2
    change Run _ _ _ _ _ _ [] _ _
    have hGK25 : K25 762 = I 762 := hK25.1.row (by decide) (by decide) (by decide)
    have hk_K25 : K25 kA = I kA := hK25.1.row (by omega) (by omega) (by omega)
    have hf_K25 : K25 fA = I fA := hK25.1.row (by omega) (by omega) (by omega)
    have hc_K25 : K25 cA = I cA := hK25.1.row (by omega) (by omega) (by omega)
    have hg_K25 : K25 gA = I gA := hK25.1.row (by omega) (by omega) (by omega)
    refine r_aload_n (x := some 761) (pc2 := 206) d_M_tellsTree_205 rfl rfl ?_
    refine r_bipush (v := nI 124) (pc2 := 208) d_M_tellsTree_206 rfl (by decide) ?_
    refine r_callv (M2 := mi_M_tells) (pc2 := 211) d_M_tellsTree_208 rfl k_M_276 cm_M_tells cv_M_tells (sh_761 hS) (by decide) rfl rfl rfl (Nat.le_of_ble_eq_true rfl) (c_M_tells (c := nI 124) hS hR hK25 (by (try simp only [List.length_append, List.length_cons, List.length_nil]); omega)) (d2 := d - 1) (by omega) (Nat.le_of_eq (Nat.zero_add _)) (Nat.le_of_eq (Nat.zero_add _)) (fun r2 h2 hq2 => ?_)
    obtain ⟨rfl, K26, rfl, hK26⟩ := hq2
    change Run _ _ _ _ _ _ [] _ _
    have hGK26 : K26 762 = I 762 := hK26.1.row (by decide) (by decide) (by decide)
    have hk_K26 : K26 kA = I kA := hK26.1.row (by omega) (by omega) (by omega)
    have hf_K26 : K26 fA = I fA := hK26.1.row (by omega) (by omega) (by omega)
    have hc_K26 : K26 cA = I cA := hK26.1.row (by omega) (by omega) (by omega)
    have hg_K26 : K26 gA = I gA := hK26.1.row (by omega) (by omega) (by omega)
    refine r_aload_n (x := some 761) (pc2 := 212) d_M_tellsTree_211 rfl rfl ?_
    refine r_iload_n (pc2 := 213) d_M_tellsTree_212 rfl rfl ?_
    refine r_aload_n (x := some 761) (pc2 := 214) d_M_tellsTree_213 rfl rfl ?_
    refine q_getR (x := some kA) (pc2 := 217) d_M_tellsTree_214 rfl k_M_22 rfl (sh_761 hS) hT.1 ?_
    refine r_iload_n (pc2 := 218) d_M_tellsTree_217 rfl rfl ?_
    refine q_iaload (q := ct) (x := I kA ct) (pc2 := 219) d_M_tellsTree_218 rfl (hT.2.2.2.2.1) (nI_toInt (by omega)) (by omega) (congrFun hk_K26 _) ?_
    refine r_bipush (v := nI 8) (pc2 := 221) d_M_tellsTree_219 rfl (by decide) ?_
    refine q_icmp_ne (tgt := 228) (A := (I kA ct).toInt) (B := (8 : Int)) (pc2 := 224) d_M_tellsTree_221 rfl rfl (rfl) (nI_toInt (by omega)) (fun c27 => ?_) (fun c27 => ?_)
    · refine r_iconst (v := nI 0) (pc2 := 229) d_M_tellsTree_228 rfl (by decide) ?_
      refine r_callv (M2 := mi_M_tellsIn) (pc2 := 232) d_M_tellsTree_229 rfl k_M_282 cm_M_tellsIn cv_M_tellsIn (sh_761 hS) (by decide) rfl rfl rfl (Nat.le_of_ble_eq_true rfl) (c_M_tellsIn0 (t := ct) (dT := d - 2) hS hR (fun l J h1 h2 => ih_ ct (by omega) (by omega) l J h1 h2 (d - 2) (by omega)) hK26 (by (try simp only [List.length_append, List.length_cons, List.length_nil]); omega) (d := d - 1) (by omega) (by omega)) (d2 := d - 1) (by omega) (Nat.le_of_eq (Nat.zero_add _)) (Nat.le_of_eq (Nat.zero_add _)) (fun r2 h2 hq2 => ?_)
      obtain ⟨rfl, K28, rfl, hK28⟩ := hq2
      change Run _ _ _ _ _ _ [] _ _
      have hGK28 : K28 762 = I 762 := hK28.1.row (by decide) (by decide) (by decide)
      have hk_K28 : K28 kA = I kA := hK28.1.row (by omega) (by omega) (by omega)
      have hf_K28 : K28 fA = I fA := hK28.1.row (by omega) (by omega) (by omega)
      have hc_K28 : K28 cA = I cA := hK28.1.row (by omega) (by omega) (by omega)
      have hg_K28 : K28 gA = I gA := hK28.1.row (by omega) (by omega) (by omega)
      refine Run.ret none d_M_tellsTree_232 rfl ?_
      refine ⟨rfl, _, rfl, ?_⟩
      rw [spt_eq hV ht]; (repeat (first | rw [if_pos (by omega)] | rw [if_neg (by omega)])); (try unfold spIn); (try simp only [decide_eq_true_eq, hft2, Int.toNat_natCast, hct2]); (repeat (first | rw [if_pos (by omega)] | rw [if_neg (by omega)]))
      have hfin := hK28
      (try simp only [List.append_assoc, List.cons_append, List.nil_append] at hfin ⊢); (try rw [hft]); (try rw [nI_add]); exact hfin
    · refine r_iconst (v := nI 1) (pc2 := 225) d_M_tellsTree_224 rfl (by decide) ?_
      refine r_goto (tgt := 229) d_M_tellsTree_225 rfl ?_
      refine r_callv (M2 := mi_M_tellsIn) (pc2 := 232) d_M_tellsTree_229 rfl k_M_282 cm_M_tellsIn cv_M_tellsIn (sh_761 hS) (by decide) rfl rfl rfl (Nat.le_of_ble_eq_true rfl) (c_M_tellsIn1 (t := ct) (dT := d - 2) hS hR (fun l J h1 h2 => ih_ ct (by omega) (by omega) l J h1 h2 (d - 2) (by omega)) hK26 (by (try simp only [List.length_append, List.length_cons, List.length_nil]); omega) (d := d - 1) (by omega) (by omega)) (d2 := d - 1) (by omega) (Nat.le_of_eq (Nat.zero_add _)) (Nat.le_of_eq (Nat.zero_add _)) (fun r2 h2 hq2 => ?_)
      obtain ⟨rfl, K29, rfl, hK29⟩ := hq2
      change Run _ _ _ _ _ _ [] _ _
      have hGK29 : K29 762 = I 762 := hK29.1.row (by decide) (by decide) (by decide)
      have hk_K29 : K29 kA = I kA := hK29.1.row (by omega) (by omega) (by omega)
      have hf_K29 : K29 fA = I fA := hK29.1.row (by omega) (by omega) (by omega)
      have hc_K29 : K29 cA = I cA := hK29.1.row (by omega) (by omega) (by omega)
      have hg_K29 : K29 gA = I gA := hK29.1.row (by omega) (by omega) (by omega)
      refine Run.ret none d_M_tellsTree_232 rfl ?_
      refine ⟨rfl, _, rfl, ?_⟩
      rw [spt_eq hV ht]; (repeat (first | rw [if_pos (by omega)] | rw [if_neg (by omega)])); (try unfold spIn); (try simp only [decide_eq_true_eq, hft2, Int.toNat_natCast, hct2]); (repeat (first | rw [if_pos (by omega)] | rw [if_neg (by omega)]))
      have hfin := hK29
      (try simp only [List.append_assoc, List.cons_append, List.nil_append] at hfin ⊢); (try rw [hft]); (try rw [nI_add]); exact hfin
theorem c_M_spelled {d : Nat} {I : Nat → Nat → Int32} {R : Nat → Nat → Option Nat} {L : Nat → Nat → Int64} {sh : Nat → Nat × Nat} {N : Nat} (hS : ShOK sh) (hR : RfOK R) {kA fA cA gA nk nt : Nat} (hT : TRf R sh kA fA cA gA nk) (hTn : TNe kA fA cA gA) (hV : TV (I kA) (I fA) (I cA) nt) (hnt : nt ≤ nk) (hnk : nk ≤ 1000000) {nP nF : Nat} (hW : WFA (I 762) nP nF nt) {rk : Nat → Nat} (hrk : RK (I 762) nF rk) {f : Int32} {s : Int32} {i : Int32} (hV2 : TV2 (I kA) (I fA) (I cA) (I gA) nt) (hsp : ∀ F, F < nF → ∀ r, r < nRof (I 762) F → (spt (I kA) (I fA) (I cA) (I gA) (I 762 (174 + 84 * F + 60 + 4 * r + 0)).toInt.toNat).length ≤ 300) (hd : 2 * nt + 40 ≤ d) : Mt mi_M_spelled d 0 0 [.ref 761, .int f, .int s, .int i] (I, R, L, sh, N) (RQ I R L sh N (o_spelled (I kA) (I fA) (I cA) (I gA) (I 762) nF f s i)) := by
  obtain ⟨hPc, hP24, hFc, hF12, hWF, hWP⟩ := id hW
  obtain ⟨hn1, hn2, hn3, hn4⟩ := id hTn
  refine Mt.of pn_M (Nat.le_of_ble_eq_true rfl) ?_
  show Run mi_M_spelled d 0 0 0 [(0, .ref 761), (1, .int f), (2, .int s), (3, .int i)] [] (I, R, L, sh, N) _
  refine r_aload_n (x := some 761) (pc2 := 1) d_M_spelled_0 rfl rfl ?_
  refine r_iload_n (pc2 := 2) d_M_spelled_1 rfl rfl ?_
  refine r_iload_n (pc2 := 3) d_M_spelled_2 rfl rfl ?_
  refine q_callv (M2 := mi_M_isRule) (pc2 := 6) d_M_spelled_3 rfl k_M_223 cm_M_isRule cv_M_isRule (sh_761 hS) (by decide) rfl rfl rfl (Nat.le_of_ble_eq_true rfl) (c_M_isRuleW (f := f) (r := s) hS hR hT hTn hV hnt hnk hW (by omega)) (d2 := d - 1) (by omega) (Nat.le_of_eq (Nat.zero_add _)) (Nat.le_of_eq (Nat.zero_add _)) ?_
  refine q_bif_ne (tgt := 16) (pc2 := 9) d_M_spelled_6 rfl rfl (fun c1 => ?_) (fun c1 => ?_)
  · obtain ⟨fN, hfN, rfl, efN⟩ := nat_of c1.1
    obtain ⟨tpfN, klfN, skfN, fbfN, nRfN, nNfN, nOfN, frfN, tofN, ⟨a0fN, b0fN, cc0fN, dd0fN⟩, ⟨a1fN, b1fN, cc1fN, dd1fN⟩, ⟨a2fN, b2fN, cc2fN, dd2fN⟩, ⟨a3fN, b3fN, cc3fN, dd3fN⟩, ⟨a4fN, b4fN, cc4fN, dd4fN⟩, ⟨a5fN, b5fN, cc5fN, dd5fN⟩, ⟨a6fN, b6fN, cc6fN, dd6fN⟩, ⟨a8fN, b8fN, cc8fN, dd8fN⟩, ⟨a9fN, b9fN, cc9fN, dd9fN⟩⟩ := wfn (hWF fN hfN)
    obtain ⟨-, -, -, -, -, -, -, w7fN, -, -, wNfN, wRfN, wKfN, wOfN⟩ := hWF fN hfN
    simp only [efN, Int.toNat_natCast, b4fN] at c1
    obtain ⟨sN, hsN, rfl, esN⟩ := nat_of c1.2
    obtain ⟨rtfNsN, rafNsN, rbfNsN, rcfNsN, ⟨t0fNsN, t1fNsN, t2fNsN⟩, ⟨u0fNsN, u1fNsN, u2fNsN⟩, ⟨v0fNsN, v1fNsN, v2fNsN⟩, ⟨x0fNsN, x1fNsN, x2fNsN⟩⟩ := wrn (wRfN sN (by omega))
    refine r_aload_n (x := some 761) (pc2 := 17) d_M_spelled_16 rfl rfl ?_
    refine r_iconst (v := nI 0) (pc2 := 18) d_M_spelled_17 rfl (by decide) ?_
    refine q_putI (pc2 := 21) d_M_spelled_18 rfl k_M_263 (Or.inl rfl) (sh_761 hS) (Or.inl rfl) (fun I2 hI2 => ?_)
    refine r_aload_n (x := some 761) (pc2 := 22) d_M_spelled_21 rfl rfl ?_
    refine r_iload_n (pc2 := 23) d_M_spelled_22 rfl rfl ?_
    refine q_putI (pc2 := 26) d_M_spelled_23 rfl k_M_266 (Or.inl rfl) (sh_761 hS) (Or.inl rfl) (fun I3 hI3 => ?_)
    refine r_aload_n (x := some 761) (pc2 := 27) d_M_spelled_26 rfl rfl ?_
    refine r_iconst (v := (-1 : Int32)) (pc2 := 28) d_M_spelled_27 rfl (by decide) ?_
    refine q_putI (pc2 := 31) d_M_spelled_28 rfl k_M_269 (Or.inl rfl) (sh_761 hS) (Or.inl rfl) (fun I4 hI4 => ?_)
    have hJ0 : TL I i ([] : List Int32) I4 := ⟨(((FrS.rf.put hI2 (by unfold scr; omega)).put hI3 (by unfold scr; omega)).put hI4 (by unfold scr; omega)), by rw [rd_nk hI4 (by decide), rd_nk hI3 (by decide), rd_eq hI2]; rfl, by rw [rd_nk hI4 (by decide), rd_eq hI3], by rw [rd_eq hI4]; unfold fnd; rw [if_neg (by simp only [List.length_nil]; omega)], by simp⟩
    have hspt := hsp fN (by omega) sN (by unfold nRof; rw [b4fN, Int.toNat_natCast]; omega)
    rw [t1fNsN, Int.toNat_natCast] at hspt
    have hGI4 : I4 762 = I 762 := hJ0.1.row (by decide) (by decide) (by decide)
    refine r_aload_n (x := some 761) (pc2 := 32) d_M_spelled_31 rfl rfl ?_
    refine r_aload_n (x := some 761) (pc2 := 33) d_M_spelled_32 rfl rfl ?_
    refine r_iload_n (pc2 := 34) d_M_spelled_33 rfl rfl ?_
    refine r_iload_n (pc2 := 35) d_M_spelled_34 rfl rfl ?_
    refine q_callv (M2 := mi_M_tree) (pc2 := 38) d_M_spelled_35 rfl k_M_185 cm_M_tree cv_M_tree (sh_761 hS) (by decide) rfl rfl rfl (Nat.le_of_ble_eq_true rfl) (c_M_tree (I := I4) (F := fN) (r := sN) hS hR (by omega) (by omega) (by omega)) (d2 := d - 1) (by omega) (Nat.le_of_eq (Nat.zero_add _)) (Nat.le_of_eq (Nat.zero_add _)) ?_
    refine q_top (y := nI rtfNsN) ((congrFun hGI4 _).trans (t0fNsN)) ?_
    refine r_callv (M2 := mi_M_tellsTree) (pc2 := 41) d_M_spelled_38 rfl k_M_279 cm_M_tellsTree cv_M_tellsTree (sh_761 hS) (by decide) rfl rfl rfl (Nat.le_of_ble_eq_true rfl) (c_M_tellsTree hS hR hT hTn hV hnt hnk hV2 rtfNsN (by omega) _ _ hJ0 (by (try simp only [List.length_append, List.length_cons, List.length_nil]); omega) (d - 1) (by omega)) (d2 := d - 1) (by omega) (Nat.le_of_eq (Nat.zero_add _)) (Nat.le_of_eq (Nat.zero_add _)) (fun r2 h2 hq2 => ?_)
    obtain ⟨rfl, K5, rfl, hK5⟩ := hq2
    change Run _ _ _ _ _ _ [] _ _
    have hGK5 : K5 762 = I 762 := hK5.1.row (by decide) (by decide) (by decide)
    refine r_aload_n (x := some 761) (pc2 := 42) d_M_spelled_41 rfl rfl ?_
    refine r_iload_n (pc2 := 43) d_M_spelled_42 rfl rfl ?_
    refine r_iload_n (pc2 := 44) d_M_spelled_43 rfl rfl ?_
    refine q_callv (M2 := mi_M_isFixed) (pc2 := 47) d_M_spelled_44 rfl k_M_188 cm_M_isFixed cv_M_isFixed (sh_761 hS) (by decide) rfl rfl rfl (Nat.le_of_ble_eq_true rfl) (c_M_isFixed (I := K5) (F := fN) (r := sN) hS hR (by omega) (by omega) (by omega)) (d2 := d - 1) (by omega) (Nat.le_of_eq (Nat.zero_add _)) (Nat.le_of_eq (Nat.zero_add _)) ?_
    refine q_top (y := bI (1000 ≤ (I 762 (174 + 84 * fN + 60 + 4 * sN + 1)).toInt)) (by rw [hGK5]) ?_
    refine q_bif_eq (tgt := 78) (pc2 := 50) d_M_spelled_47 rfl rfl (fun c6 => ?_) (fun c6 => ?_)
    · refine r_iconst (v := nI 1) (pc2 := 79) d_M_spelled_78 rfl (by decide) ?_
      refine r_istore (pc2 := 81) d_M_spelled_79 rfl (Nat.le_of_ble_eq_true rfl) ?_
      refine r_iload (pc2 := 83) d_M_spelled_81 rfl rfl ?_
      refine r_iconst (v := nI 3) (pc2 := 84) d_M_spelled_83 rfl (by decide) ?_
      refine q_icmp_gt (tgt := 126) (A := (1 : Int)) (B := (3 : Int)) (pc2 := 87) d_M_spelled_84 rfl rfl (nI_toInt (by omega)) (nI_toInt (by omega)) (fun c7 => ?_) (fun c7 => ?_)
      · exfalso; omega
      refine r_aload_n (x := some 761) (pc2 := 88) d_M_spelled_87 rfl rfl ?_
      refine r_iload (pc2 := 90) d_M_spelled_88 rfl rfl ?_
      refine r_iconst (v := nI 1) (pc2 := 91) d_M_spelled_90 rfl (by decide) ?_
      refine q_icmp_ne (tgt := 99) (A := (1 : Int)) (B := (1 : Int)) (pc2 := 94) d_M_spelled_91 rfl rfl (nI_toInt (by omega)) (nI_toInt (by omega)) (fun c8 => ?_) (fun c8 => ?_)
      · exfalso; omega
      refine r_bipush (v := nI 37) (pc2 := 96) d_M_spelled_94 rfl (by decide) ?_
      refine r_goto (tgt := 101) d_M_spelled_96 rfl ?_
      refine r_callv (M2 := mi_M_tells) (pc2 := 104) d_M_spelled_101 rfl k_M_276 cm_M_tells cv_M_tells (sh_761 hS) (by decide) rfl rfl rfl (Nat.le_of_ble_eq_true rfl) (c_M_tells (c := nI 37) hS hR hK5 (by (try simp only [List.length_append, List.length_cons, List.length_nil]); omega)) (d2 := d - 1) (by omega) (Nat.le_of_eq (Nat.zero_add _)) (Nat.le_of_eq (Nat.zero_add _)) (fun r2 h2 hq2 => ?_)
      obtain ⟨rfl, K9, rfl, hK9⟩ := hq2
      change Run _ _ _ _ _ _ [] _ _
      have hGK9 : K9 762 = I 762 := hK9.1.row (by decide) (by decide) (by decide)
      refine r_aload_n (x := some 761) (pc2 := 105) d_M_spelled_104 rfl rfl ?_
      refine r_aload_n (x := some 761) (pc2 := 106) d_M_spelled_105 rfl rfl ?_
      refine q_getR (x := some 762) (pc2 := 109) d_M_spelled_106 rfl k_M_9 rfl (sh_761 hS) (rf_761_0 hR) ?_
      refine r_iload_n (pc2 := 110) d_M_spelled_109 rfl rfl ?_
      refine r_iload_n (pc2 := 111) d_M_spelled_110 rfl rfl ?_
      refine r_iload (pc2 := 113) d_M_spelled_111 rfl rfl ?_
      refine q_calls (M2 := mi_M_ruleAt) (pc2 := 116) d_M_spelled_113 rfl k_M_80 cm_M_ruleAt cs_M_ruleAt rfl rfl (Nat.le_of_ble_eq_true rfl) (c_M_ruleAt (F := fN) (r := sN) (k := 1)) (d2 := d - 1) (by omega) (Nat.le_of_eq (Nat.zero_add _)) (Nat.le_of_eq (Nat.zero_add _)) ?_
      refine q_iaload (q := 174 + 84 * fN + 60 + 4 * sN + 1) (x := nI rafNsN) (pc2 := 117) d_M_spelled_116 rfl (sh_762 hS) (nI_toInt (by omega)) (by omega) ((congrFun hGK9 _).trans (u0fNsN)) ?_
      have hln10 : (spn rafNsN).length ≤ 7 := spn_len
      refine r_callv (M2 := mi_M_tellsNumber) (pc2 := 120) d_M_spelled_117 rfl k_M_272 cm_M_tellsNumber cv_M_tellsNumber (sh_761 hS) (by decide) rfl rfl rfl (Nat.le_of_ble_eq_true rfl) (c_M_tellsNumber hS hR 6 rafNsN (by omega) (by decide) _ _ hK9 (by (try simp only [List.length_append, List.length_cons, List.length_nil]); omega) (d - 1) (by omega)) (d2 := d - 1) (by omega) (Nat.le_of_eq (Nat.zero_add _)) (Nat.le_of_eq (Nat.zero_add _)) (fun r2 h2 hq2 => ?_)
      obtain ⟨rfl, K10, rfl, hK10⟩ := hq2
      change Run _ _ _ _ _ _ [] _ _
      have hGK10 : K10 762 = I 762 := hK10.1.row (by decide) (by decide) (by decide)
      refine q_iinc (b := 1) (pc2 := 123) d_M_spelled_120 rfl rfl (by decide) (Nat.le_of_ble_eq_true rfl) ?_
      refine r_goto (tgt := 81) d_M_spelled_123 rfl ?_
      refine r_iload (pc2 := 83) d_M_spelled_81 rfl rfl ?_
      refine r_iconst (v := nI 3) (pc2 := 84) d_M_spelled_83 rfl (by decide) ?_
      refine q_icmp_gt (tgt := 126) (A := (2 : Int)) (B := (3 : Int)) (pc2 := 87) d_M_spelled_84 rfl rfl (nI_toInt (by omega)) (nI_toInt (by omega)) (fun c11 => ?_) (fun c11 => ?_)
      · exfalso; omega
      refine r_aload_n (x := some 761) (pc2 := 88) d_M_spelled_87 rfl rfl ?_
      refine r_iload (pc2 := 90) d_M_spelled_88 rfl rfl ?_
      refine r_iconst (v := nI 1) (pc2 := 91) d_M_spelled_90 rfl (by decide) ?_
      refine q_icmp_ne (tgt := 99) (A := (2 : Int)) (B := (1 : Int)) (pc2 := 94) d_M_spelled_91 rfl rfl (nI_toInt (by omega)) (nI_toInt (by omega)) (fun c12 => ?_) (fun c12 => ?_)
      rotate_left
      · exfalso; omega
      refine r_bipush (v := nI 44) (pc2 := 101) d_M_spelled_99 rfl (by decide) ?_
      refine r_callv (M2 := mi_M_tells) (pc2 := 104) d_M_spelled_101 rfl k_M_276 cm_M_tells cv_M_tells (sh_761 hS) (by decide) rfl rfl rfl (Nat.le_of_ble_eq_true rfl) (c_M_tells (c := nI 44) hS hR hK10 (by (try simp only [List.length_append, List.length_cons, List.length_nil]); omega)) (d2 := d - 1) (by omega) (Nat.le_of_eq (Nat.zero_add _)) (Nat.le_of_eq (Nat.zero_add _)) (fun r2 h2 hq2 => ?_)
      obtain ⟨rfl, K13, rfl, hK13⟩ := hq2
      change Run _ _ _ _ _ _ [] _ _
      have hGK13 : K13 762 = I 762 := hK13.1.row (by decide) (by decide) (by decide)
      refine r_aload_n (x := some 761) (pc2 := 105) d_M_spelled_104 rfl rfl ?_
      refine r_aload_n (x := some 761) (pc2 := 106) d_M_spelled_105 rfl rfl ?_
      refine q_getR (x := some 762) (pc2 := 109) d_M_spelled_106 rfl k_M_9 rfl (sh_761 hS) (rf_761_0 hR) ?_
      refine r_iload_n (pc2 := 110) d_M_spelled_109 rfl rfl ?_
      refine r_iload_n (pc2 := 111) d_M_spelled_110 rfl rfl ?_
      refine r_iload (pc2 := 113) d_M_spelled_111 rfl rfl ?_
      refine q_calls (M2 := mi_M_ruleAt) (pc2 := 116) d_M_spelled_113 rfl k_M_80 cm_M_ruleAt cs_M_ruleAt rfl rfl (Nat.le_of_ble_eq_true rfl) (c_M_ruleAt (F := fN) (r := sN) (k := 2)) (d2 := d - 1) (by omega) (Nat.le_of_eq (Nat.zero_add _)) (Nat.le_of_eq (Nat.zero_add _)) ?_
      refine q_iaload (q := 174 + 84 * fN + 60 + 4 * sN + 2) (x := nI rbfNsN) (pc2 := 117) d_M_spelled_116 rfl (sh_762 hS) (nI_toInt (by omega)) (by omega) ((congrFun hGK13 _).trans (v0fNsN)) ?_
      have hln14 : (spn rbfNsN).length ≤ 7 := spn_len
      refine r_callv (M2 := mi_M_tellsNumber) (pc2 := 120) d_M_spelled_117 rfl k_M_272 cm_M_tellsNumber cv_M_tellsNumber (sh_761 hS) (by decide) rfl rfl rfl (Nat.le_of_ble_eq_true rfl) (c_M_tellsNumber hS hR 6 rbfNsN (by omega) (by decide) _ _ hK13 (by (try simp only [List.length_append, List.length_cons, List.length_nil]); omega) (d - 1) (by omega)) (d2 := d - 1) (by omega) (Nat.le_of_eq (Nat.zero_add _)) (Nat.le_of_eq (Nat.zero_add _)) (fun r2 h2 hq2 => ?_)
      obtain ⟨rfl, K14, rfl, hK14⟩ := hq2
      change Run _ _ _ _ _ _ [] _ _
      have hGK14 : K14 762 = I 762 := hK14.1.row (by decide) (by decide) (by decide)
      refine q_iinc (b := 1) (pc2 := 123) d_M_spelled_120 rfl rfl (by decide) (Nat.le_of_ble_eq_true rfl) ?_
      refine r_goto (tgt := 81) d_M_spelled_123 rfl ?_
      refine r_iload (pc2 := 83) d_M_spelled_81 rfl rfl ?_
      refine r_iconst (v := nI 3) (pc2 := 84) d_M_spelled_83 rfl (by decide) ?_
      refine q_icmp_gt (tgt := 126) (A := (3 : Int)) (B := (3 : Int)) (pc2 := 87) d_M_spelled_84 rfl rfl (nI_toInt (by omega)) (nI_toInt (by omega)) (fun c15 => ?_) (fun c15 => ?_)
      · exfalso; omega
      refine r_aload_n (x := some 761) (pc2 := 88) d_M_spelled_87 rfl rfl ?_
      refine r_iload (pc2 := 90) d_M_spelled_88 rfl rfl ?_
      refine r_iconst (v := nI 1) (pc2 := 91) d_M_spelled_90 rfl (by decide) ?_
      refine q_icmp_ne (tgt := 99) (A := (3 : Int)) (B := (1 : Int)) (pc2 := 94) d_M_spelled_91 rfl rfl (nI_toInt (by omega)) (nI_toInt (by omega)) (fun c16 => ?_) (fun c16 => ?_)
      rotate_left
      · exfalso; omega
      refine r_bipush (v := nI 44) (pc2 := 101) d_M_spelled_99 rfl (by decide) ?_
      refine r_callv (M2 := mi_M_tells) (pc2 := 104) d_M_spelled_101 rfl k_M_276 cm_M_tells cv_M_tells (sh_761 hS) (by decide) rfl rfl rfl (Nat.le_of_ble_eq_true rfl) (c_M_tells (c := nI 44) hS hR hK14 (by (try simp only [List.length_append, List.length_cons, List.length_nil]); omega)) (d2 := d - 1) (by omega) (Nat.le_of_eq (Nat.zero_add _)) (Nat.le_of_eq (Nat.zero_add _)) (fun r2 h2 hq2 => ?_)
      obtain ⟨rfl, K17, rfl, hK17⟩ := hq2
      change Run _ _ _ _ _ _ [] _ _
      have hGK17 : K17 762 = I 762 := hK17.1.row (by decide) (by decide) (by decide)
      refine r_aload_n (x := some 761) (pc2 := 105) d_M_spelled_104 rfl rfl ?_
      refine r_aload_n (x := some 761) (pc2 := 106) d_M_spelled_105 rfl rfl ?_
      refine q_getR (x := some 762) (pc2 := 109) d_M_spelled_106 rfl k_M_9 rfl (sh_761 hS) (rf_761_0 hR) ?_
      refine r_iload_n (pc2 := 110) d_M_spelled_109 rfl rfl ?_
      refine r_iload_n (pc2 := 111) d_M_spelled_110 rfl rfl ?_
      refine r_iload (pc2 := 113) d_M_spelled_111 rfl rfl ?_
      refine q_calls (M2 := mi_M_ruleAt) (pc2 := 116) d_M_spelled_113 rfl k_M_80 cm_M_ruleAt cs_M_ruleAt rfl rfl (Nat.le_of_ble_eq_true rfl) (c_M_ruleAt (F := fN) (r := sN) (k := 3)) (d2 := d - 1) (by omega) (Nat.le_of_eq (Nat.zero_add _)) (Nat.le_of_eq (Nat.zero_add _)) ?_
      refine q_iaload (q := 174 + 84 * fN + 60 + 4 * sN + 3) (x := nI rcfNsN) (pc2 := 117) d_M_spelled_116 rfl (sh_762 hS) (nI_toInt (by omega)) (by omega) ((congrFun hGK17 _).trans (x0fNsN)) ?_
      have hln18 : (spn rcfNsN).length ≤ 7 := spn_len
      refine r_callv (M2 := mi_M_tellsNumber) (pc2 := 120) d_M_spelled_117 rfl k_M_272 cm_M_tellsNumber cv_M_tellsNumber (sh_761 hS) (by decide) rfl rfl rfl (Nat.le_of_ble_eq_true rfl) (c_M_tellsNumber hS hR 6 rcfNsN (by omega) (by decide) _ _ hK17 (by (try simp only [List.length_append, List.length_cons, List.length_nil]); omega) (d - 1) (by omega)) (d2 := d - 1) (by omega) (Nat.le_of_eq (Nat.zero_add _)) (Nat.le_of_eq (Nat.zero_add _)) (fun r2 h2 hq2 => ?_)
      obtain ⟨rfl, K18, rfl, hK18⟩ := hq2
      change Run _ _ _ _ _ _ [] _ _
      have hGK18 : K18 762 = I 762 := hK18.1.row (by decide) (by decide) (by decide)
      refine q_iinc (b := 1) (pc2 := 123) d_M_spelled_120 rfl rfl (by decide) (Nat.le_of_ble_eq_true rfl) ?_
      refine r_goto (tgt := 81) d_M_spelled_123 rfl ?_
      refine r_iload (pc2 := 83) d_M_spelled_81 rfl rfl ?_
      refine r_iconst (v := nI 3) (pc2 := 84) d_M_spelled_83 rfl (by decide) ?_
      refine q_icmp_gt (tgt := 126) (A := (4 : Int)) (B := (3 : Int)) (pc2 := 87) d_M_spelled_84 rfl rfl (nI_toInt (by omega)) (nI_toInt (by omega)) (fun c19 => ?_) (fun c19 => ?_)
      rotate_left
      · exfalso; omega
      refine r_aload_n (x := some 761) (pc2 := 127) d_M_spelled_126 rfl rfl ?_
      refine q_getI (x := K18 761 26) (pc2 := 130) d_M_spelled_127 rfl k_M_269 (by decide) (sh_761 hS) rfl ?_
      refine Run.ret (some (.int (K18 761 26))) d_M_spelled_130 ⟨_, rfl⟩ ?_
      have hfin := hK18
      have hvv := hfin.2.2.2.1
      refine RQ.val ?_ hfin.1
      rw [hvv]; (unfold o_spelled); (try simp only [efN, b0fN, b1fN, b2fN, b3fN, b4fN, b5fN, b6fN, b8fN, b9fN, esN, t1fNsN, u1fNsN, v1fNsN, x1fNsN, Int.toNat_natCast]); (repeat (first | rw [if_pos (by omega)] | rw [if_neg (by omega)])); (try simp only [List.append_assoc, List.cons_append, List.nil_append])
    · refine r_aload_n (x := some 761) (pc2 := 51) d_M_spelled_50 rfl rfl ?_
      refine r_bipush (v := nI 58) (pc2 := 53) d_M_spelled_51 rfl (by decide) ?_
      refine r_callv (M2 := mi_M_tells) (pc2 := 56) d_M_spelled_53 rfl k_M_276 cm_M_tells cv_M_tells (sh_761 hS) (by decide) rfl rfl rfl (Nat.le_of_ble_eq_true rfl) (c_M_tells (c := nI 58) hS hR hK5 (by (try simp only [List.length_append, List.length_cons, List.length_nil]); omega)) (d2 := d - 1) (by omega) (Nat.le_of_eq (Nat.zero_add _)) (Nat.le_of_eq (Nat.zero_add _)) (fun r2 h2 hq2 => ?_)
      obtain ⟨rfl, K20, rfl, hK20⟩ := hq2
      change Run _ _ _ _ _ _ [] _ _
      have hGK20 : K20 762 = I 762 := hK20.1.row (by decide) (by decide) (by decide)
      refine r_aload_n (x := some 761) (pc2 := 57) d_M_spelled_56 rfl rfl ?_
      refine r_aload_n (x := some 761) (pc2 := 58) d_M_spelled_57 rfl rfl ?_
      refine q_getR (x := some 762) (pc2 := 61) d_M_spelled_58 rfl k_M_9 rfl (sh_761 hS) (rf_761_0 hR) ?_
      refine r_iload_n (pc2 := 62) d_M_spelled_61 rfl rfl ?_
      refine r_iload_n (pc2 := 63) d_M_spelled_62 rfl rfl ?_
      refine r_iconst (v := nI 1) (pc2 := 64) d_M_spelled_63 rfl (by decide) ?_
      refine q_calls (M2 := mi_M_ruleAt) (pc2 := 67) d_M_spelled_64 rfl k_M_80 cm_M_ruleAt cs_M_ruleAt rfl rfl (Nat.le_of_ble_eq_true rfl) (c_M_ruleAt (F := fN) (r := sN) (k := 1)) (d2 := d - 1) (by omega) (Nat.le_of_eq (Nat.zero_add _)) (Nat.le_of_eq (Nat.zero_add _)) ?_
      refine q_iaload (q := 174 + 84 * fN + 60 + 4 * sN + 1) (x := nI rafNsN) (pc2 := 68) d_M_spelled_67 rfl (sh_762 hS) (nI_toInt (by omega)) (by omega) ((congrFun hGK20 _).trans (u0fNsN)) ?_
      refine r_sipush (v := nI 1000) (pc2 := 71) d_M_spelled_68 rfl (by decide) ?_
      refine q_isubN (pc2 := 72) d_M_spelled_71 rfl (by omega) ?_
      have hln21 : (spn (rafNsN - 1000)).length ≤ 7 := spn_len
      refine r_callv (M2 := mi_M_tellsNumber) (pc2 := 75) d_M_spelled_72 rfl k_M_272 cm_M_tellsNumber cv_M_tellsNumber (sh_761 hS) (by decide) rfl rfl rfl (Nat.le_of_ble_eq_true rfl) (c_M_tellsNumber hS hR 6 (rafNsN - 1000) (by omega) (by decide) _ _ hK20 (by (try simp only [List.length_append, List.length_cons, List.length_nil]); omega) (d - 1) (by omega)) (d2 := d - 1) (by omega) (Nat.le_of_eq (Nat.zero_add _)) (Nat.le_of_eq (Nat.zero_add _)) (fun r2 h2 hq2 => ?_)
      obtain ⟨rfl, K21, rfl, hK21⟩ := hq2
      change Run _ _ _ _ _ _ [] _ _
      have hGK21 : K21 762 = I 762 := hK21.1.row (by decide) (by decide) (by decide)
      refine r_goto (tgt := 126) d_M_spelled_75 rfl ?_
      refine r_aload_n (x := some 761) (pc2 := 127) d_M_spelled_126 rfl rfl ?_
      refine q_getI (x := K21 761 26) (pc2 := 130) d_M_spelled_127 rfl k_M_269 (by decide) (sh_761 hS) rfl ?_
      refine Run.ret (some (.int (K21 761 26))) d_M_spelled_130 ⟨_, rfl⟩ ?_
      have hfin := hK21
      have hvv := hfin.2.2.2.1
      refine RQ.val ?_ hfin.1
      rw [hvv]; (unfold o_spelled); (try simp only [efN, b0fN, b1fN, b2fN, b3fN, b4fN, b5fN, b6fN, b8fN, b9fN, esN, t1fNsN, u1fNsN, v1fNsN, x1fNsN, Int.toNat_natCast]); (repeat (first | rw [if_pos (by omega)] | rw [if_neg (by omega)])); (try simp only [List.append_assoc, List.cons_append, List.nil_append])
  · refine r_aload_n (x := some 761) (pc2 := 10) d_M_spelled_9 rfl rfl ?_
    refine r_bipush (v := (-32 : Int32)) (pc2 := 12) d_M_spelled_10 rfl (by decide) ?_
    refine q_callv (M2 := mi_M_refused) (pc2 := 15) d_M_spelled_12 rfl k_M_106 cm_M_refused cv_M_refused (sh_761 hS) (by decide) rfl rfl rfl (Nat.le_of_ble_eq_true rfl) (c_M_refused_0 (I := I) hS hR) (d2 := d - 1) (by omega) (Nat.le_of_eq (Nat.zero_add _)) (Nat.le_of_eq (Nat.zero_add _)) ?_
    obtain ⟨I22, hI22⟩ : ∃ x, x = u2 I 765 0 (I 765 0 + nI 1) := ⟨_, rfl⟩
    rw [← hI22]
    refine Run.ret (some (.int ((-32 : Int32)))) d_M_spelled_15 ⟨_, rfl⟩ ?_
    exact RQ.bad 0 (by (unfold o_spelled); (try dsimp only); (try simp only [Int.toNat_natCast]); (repeat (first | rw [if_pos (by omega)] | rw [if_neg (by omega)])); (try rfl); (all_goals first | rfl | (congr 2; omega) | ((repeat' split) <;> first | rfl | (exfalso; omega) | (congr 2; omega) | skip)); (try rfl)) (by decide) FrS.rf hI22
