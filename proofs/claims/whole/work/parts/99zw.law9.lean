/-! THE LAW'S LOOP -/
section LAW
variable {w : WD} {p : Program} {l : Launch} {e : Env} {s : State} {m : MethodId} {below : List Frame} {meth : Method} {c : Code} {b L : Nat} {xs : Nat → Int32} {pc cells slots : Nat} {h : HS}
theorem and63 (v : Int32) : 0 ≤ (v &&& nI 63).toInt ∧ (v &&& nI 63).toInt ≤ 63 := by
  have h : (v &&& nI 63).toBitVec.toNat ≤ 63 := by
    rw [Int32.toBitVec_and, BitVec.toNat_and]
    exact Nat.le_trans Nat.and_le_right (by decide)
  have e : (v &&& nI 63).toInt = ((v &&& nI 63).toBitVec.toNat : Int) := BitVec.toInt_eq_toNat_of_lt (by omega)
  omega
theorem lr_iinc {n : Int} {i : Nat} {pc2 : Nat} {lv lv' : List (Nat × Value)} {k : Nat} {x v : Int32} {st : List Value} (X : LX w p s m meth c b L xs) (hdg : decode code pc = .ok (.iinc i n, 3)) (hp : pc + 3 = pc2) (hk : lv[k]? = some (i, .int x)) (hv : x + Int32.ofInt n = v) (hn : i < 4) (hl : (i, Value.int v) :: lv.filter (fun q => !(q.1 == i) && !(q.1 + 1 == i && q.2.category == 2)) = lv') (kk : LR w p l e s m below meth c b pc2 lv' st h cells slots) : LR w p l e s m below meth c b pc lv st h cells slots := by
  subst hp
  exact fun H locs ls hR hl1 hv2 => lv_iinc X.x X.cd hdg hv2 hk hv hn hl (fun ls2 hv3 => kk H locs ls2 hR hl1 hv3)
def stL : List Nat := [240, 283, 356, 419, 453, 476, 529, 562, 585, 598, 631, 654, 677, 700, 733, 756, 799, 822, 855, 908, 951, 974, 1017, 1070, 1133, 1156, 1189, 1232, 1285, 1328, 1361, 1394, 1427, 1460, 1513, 1566, 1589, 1622, 1645, 1678, 1701, 1744, 1777, 1820, 1843, 1866, 1879, 1892]
theorem LCs : ∀ q ∈ stL, LCase w p l e s m below meth c b L xs q := List.forall_mem_cons.mpr ⟨law_0, List.forall_mem_cons.mpr ⟨law_1, List.forall_mem_cons.mpr ⟨law_2, List.forall_mem_cons.mpr ⟨law_3, List.forall_mem_cons.mpr ⟨law_4, List.forall_mem_cons.mpr ⟨law_5, List.forall_mem_cons.mpr ⟨law_6, List.forall_mem_cons.mpr ⟨law_7, List.forall_mem_cons.mpr ⟨law_8, List.forall_mem_cons.mpr ⟨law_9, List.forall_mem_cons.mpr ⟨law_10, List.forall_mem_cons.mpr ⟨law_11, List.forall_mem_cons.mpr ⟨law_12, List.forall_mem_cons.mpr ⟨law_13, List.forall_mem_cons.mpr ⟨law_14, List.forall_mem_cons.mpr ⟨law_15, List.forall_mem_cons.mpr ⟨law_16, List.forall_mem_cons.mpr ⟨law_17, List.forall_mem_cons.mpr ⟨law_18, List.forall_mem_cons.mpr ⟨law_19, List.forall_mem_cons.mpr ⟨law_20, List.forall_mem_cons.mpr ⟨law_21, List.forall_mem_cons.mpr ⟨law_22, List.forall_mem_cons.mpr ⟨law_23, List.forall_mem_cons.mpr ⟨law_24, List.forall_mem_cons.mpr ⟨law_25, List.forall_mem_cons.mpr ⟨law_26, List.forall_mem_cons.mpr ⟨law_27, List.forall_mem_cons.mpr ⟨law_28, List.forall_mem_cons.mpr ⟨law_29, List.forall_mem_cons.mpr ⟨law_30, List.forall_mem_cons.mpr ⟨law_31, List.forall_mem_cons.mpr ⟨law_32, List.forall_mem_cons.mpr ⟨law_33, List.forall_mem_cons.mpr ⟨law_34, List.forall_mem_cons.mpr ⟨law_35, List.forall_mem_cons.mpr ⟨law_36, List.forall_mem_cons.mpr ⟨law_37, List.forall_mem_cons.mpr ⟨law_38, List.forall_mem_cons.mpr ⟨law_39, List.forall_mem_cons.mpr ⟨law_40, List.forall_mem_cons.mpr ⟨law_41, List.forall_mem_cons.mpr ⟨law_42, List.forall_mem_cons.mpr ⟨law_43, List.forall_mem_cons.mpr ⟨law_44, List.forall_mem_cons.mpr ⟨law_45, List.forall_mem_cons.mpr ⟨law_46, List.forall_mem_cons.mpr ⟨law_47, fun _ h => absurd h List.not_mem_nil⟩⟩⟩⟩⟩⟩⟩⟩⟩⟩⟩⟩⟩⟩⟩⟩⟩⟩⟩⟩⟩⟩⟩⟩⟩⟩⟩⟩⟩⟩⟩⟩⟩⟩⟩⟩⟩⟩⟩⟩⟩⟩⟩⟩⟩⟩⟩⟩
theorem tbl : ∀ j, j < 48 → (#[207, 250, 323, 386, 420, 443, 496, 529, 552, 565, 598, 621, 644, 667, 700, 723, 766, 789, 822, 875, 918, 941, 984, 1037, 1100, 1123, 1156, 1199, 1252, 1295, 1328, 1361, 1394, 1427, 1480, 1533, 1556, 1589, 1612, 1645, 1668, 1711, 1744, 1787, 1810, 1833, 1846, 1859] : Array Int)[j]? = Option.map (fun q : Nat => (q : Int) - 33) (stL[j]? : Option Nat) := by decide +kernel
/-- a number less 6, in the machine -/
theorem sub6 {L : Nat} (h : L ≤ 3072) : (nI L - nI 6).toInt = (L : Int) - 6 := toInt_sub_of (nI_toInt (by omega)) (nI_toInt (by omega)) (by omega) (by omega)
theorem law_loop (X : LX w p s m meth c b L xs) : ∀ (k n : Nat) (h : HS) (cells slots : Nat), L ≤ 6 * n + 6 * k → 6 * n ≤ L + 5 → INV n h → cells ≤ 1000 + 10 * n → slots ≤ 100000 + 5450 * n → LR w p l e s m below meth c b 18 (LV w b (6 * n)) [] h cells slots := by
  have hL := X.2.2.2
  intro k
  induction k with
  | zero =>
    intro n h cells slots h1 h2 hI hc hs
    refine lr_iload (i := 3) X dL_18 rfl rfl lv3 ?_
    refine lr_aload (i := 0) X dL_19 rfl rfl lv0 ?_
    refine lr_slen X dL_20 rfl ?_
    refine lr_bipush (v := nI 6) X dL_21 rfl (by decide) ?_
    refine lr_isub X dL_23 rfl ?_
    refine lr_icmp_gt (tgt := 1921) X dL_24 rfl rfl (fun q => ?_) (fun q => ?_)
    · refine lr_iconst (v := 1) X dL_1921 rfl (by decide) ?_
      exact lr_ret X (by omega) (by omega) dL_1922
    · rw [Int32.lt_iff_toInt_lt, sub6 hL, nI_toInt (by omega)] at q
      omega
  | succ k ih =>
    intro n h cells slots h1 h2 hI hc hs
    refine lr_iload (i := 3) X dL_18 rfl rfl lv3 ?_
    refine lr_aload (i := 0) X dL_19 rfl rfl lv0 ?_
    refine lr_slen X dL_20 rfl ?_
    refine lr_bipush (v := nI 6) X dL_21 rfl (by decide) ?_
    refine lr_isub X dL_23 rfl ?_
    refine lr_icmp_gt (tgt := 1921) X dL_24 rfl rfl (fun q => ?_) (fun q => ?_)
    · refine lr_iconst (v := 1) X dL_1921 rfl (by decide) ?_
      exact lr_ret X (by omega) (by omega) dL_1922
    · rw [Int32.lt_iff_toInt_lt, sub6 hL, nI_toInt (by omega)] at q
      have hi : 6 * n + 6 ≤ L := by omega
      -- behind a case
      have go : ∀ h2 c2 s2, INV (n + 1) h2 → c2 ≤ 1000 + 10 * (n + 1) → s2 ≤ 100000 + 5450 * (n + 1) → LR w p l e s m below meth c b 1915 (LV w b (6 * n)) [] h2 c2 s2 := fun h2 c2 s2 hI2 hc2 hs2 => by
        refine lr_iinc (k := 0) (x := nI (6 * n)) (v := nI (6 * (n + 1))) (lv' := LV w b (6 * (n + 1))) X dL_1915 rfl rfl (nI_add (6 * n) 6) (by decide) rfl ?_
        refine lr_goto (tgt := 18) X dL_1918 rfl ?_
        exact ih (n + 1) h2 c2 s2 (by omega) (by omega) hI2 hc2 hs2
      refine lr_aload (i := 0) X dL_27 rfl rfl lv0 ?_
      refine lr_iload (i := 3) X dL_28 rfl rfl lv3 ?_
      refine lr_sld X dL_29 rfl (by omega) ?_
      refine lr_bipush (v := nI 63) X dL_30 rfl (by decide) ?_
      refine lr_iand X dL_32 rfl ?_
      obtain ⟨x1, x2⟩ := and63 (xs (6 * n))
      by_cases hx : (xs (6 * n) &&& nI 63).toInt ≤ 47
      · obtain ⟨j, hj⟩ : ∃ j : Nat, (xs (6 * n) &&& nI 63).toInt = (j : Int) := ⟨(xs (6 * n) &&& nI 63).toInt.toNat, by omega⟩
        have hj48 : j < 48 := by omega
        have hlen : stL.length = 48 := rfl
        have hget : stL[j]? = some stL[j] := List.getElem?_eq_getElem (by omega)
        have ht := tbl j hj48
        rw [hget] at ht
        refine lr_tableIn (off := (stL[j] : Int) - 33) (tgt := stL[j]) X dL_33 (by omega) (by omega) ?_ (by omega) ?_
        · rw [hj, show ((j : Int) - 0).toNat = j by omega]; exact ht
        · exact LCs stL[j] (List.getElem_mem (by omega)) X n h cells slots hi (by omega) hI hc hs go
      · refine lr_tableOut (tgt := 1915) X dL_33 (Or.inr (by omega)) rfl ?_
        obtain ⟨I, R, Lg, sh, N, tp, nt, nk, nP, nF, nS, kA, fA, cA, gA, rfl, hC, hr⟩ := hI
        exact go _ _ _ ⟨I, R, Lg, sh, N, tp, nt, nk, nP, nF, nS, kA, fA, cA, gA, rfl, hC.same (fun _ _ _ _ _ _ => rfl) FrXR.rf (Nat.le_succ n), hr⟩ (by omega) (by omega)
end LAW
