/-! THE REFERENCE: shakes, shelves -/
theorem WFF_1 {G : Nat → Int32} {nF nt F : Nat} {v : Int32} (h : WFF G nF nt F) (hv : 0 ≤ v.toInt ∧ v.toInt ≤ 1) : WFF (u1 G (174 + 84 * F + 1) v) nF nt F := by
  obtain ⟨w0, w1, w2, w3, w4, w5, w6, w7, w8, w9, wN, wR, wK, wO⟩ := h
  refine ⟨by rw [u1_o (by omega)]; exact w0, by rw [u1_i]; exact hv, by rw [u1_o (by omega)]; exact w2, by rw [u1_o (by omega)]; exact w3, by rw [u1_o (by omega)]; exact w4, by rw [u1_o (by omega)]; exact w5, by rw [u1_o (by omega)]; exact w6, by rw [u1_o (by omega)]; exact w7, by rw [u1_o (by omega)]; exact w8, by rw [u1_o (by omega)]; exact w9, fun n hn => ?_, fun q hq => ?_, fun p2 hp2 => ?_, fun k2 hk2 => ?_⟩
  · rw [u1_o (by omega)] at hn
    rw [u1_o (by omega), u1_o (by omega)]; exact wN n hn
  · rw [u1_o (by omega)] at hq
    rw [u1_o (by omega), u1_o (by omega), u1_o (by omega), u1_o (by omega)]; exact wR q hq
  · rw [u1_o (by omega)]; exact wK p2 hp2
  · rw [u1_o (by omega)] at hk2
    rw [u1_o (by omega)]; exact wO k2 hk2
theorem WFF_2 {G : Nat → Int32} {nF nt F : Nat} {v : Int32} (h : WFF G nF nt F) (hv : 0 ≤ v.toInt ∧ v.toInt ≤ 1) : WFF (u1 G (174 + 84 * F + 2) v) nF nt F := by
  obtain ⟨w0, w1, w2, w3, w4, w5, w6, w7, w8, w9, wN, wR, wK, wO⟩ := h
  refine ⟨by rw [u1_o (by omega)]; exact w0, by rw [u1_o (by omega)]; exact w1, by rw [u1_i]; exact hv, by rw [u1_o (by omega)]; exact w3, by rw [u1_o (by omega)]; exact w4, by rw [u1_o (by omega)]; exact w5, by rw [u1_o (by omega)]; exact w6, by rw [u1_o (by omega)]; exact w7, by rw [u1_o (by omega)]; exact w8, by rw [u1_o (by omega)]; exact w9, fun n hn => ?_, fun q hq => ?_, fun p2 hp2 => ?_, fun k2 hk2 => ?_⟩
  · rw [u1_o (by omega)] at hn
    rw [u1_o (by omega), u1_o (by omega)]; exact wN n hn
  · rw [u1_o (by omega)] at hq
    rw [u1_o (by omega), u1_o (by omega), u1_o (by omega), u1_o (by omega)]; exact wR q hq
  · rw [u1_o (by omega)]; exact wK p2 hp2
  · rw [u1_o (by omega)] at hk2
    rw [u1_o (by omega)]; exact wO k2 hk2
theorem WFF_3 {G : Nat → Int32} {nF nt F : Nat} {v : Int32} (h : WFF G nF nt F) (hv : 0 ≤ v.toInt ∧ v.toInt ≤ 3) : WFF (u1 G (174 + 84 * F + 3) v) nF nt F := by
  obtain ⟨w0, w1, w2, w3, w4, w5, w6, w7, w8, w9, wN, wR, wK, wO⟩ := h
  refine ⟨by rw [u1_o (by omega)]; exact w0, by rw [u1_o (by omega)]; exact w1, by rw [u1_o (by omega)]; exact w2, by rw [u1_i]; exact hv, by rw [u1_o (by omega)]; exact w4, by rw [u1_o (by omega)]; exact w5, by rw [u1_o (by omega)]; exact w6, by rw [u1_o (by omega)]; exact w7, by rw [u1_o (by omega)]; exact w8, by rw [u1_o (by omega)]; exact w9, fun n hn => ?_, fun q hq => ?_, fun p2 hp2 => ?_, fun k2 hk2 => ?_⟩
  · rw [u1_o (by omega)] at hn
    rw [u1_o (by omega), u1_o (by omega)]; exact wN n hn
  · rw [u1_o (by omega)] at hq
    rw [u1_o (by omega), u1_o (by omega), u1_o (by omega), u1_o (by omega)]; exact wR q hq
  · rw [u1_o (by omega)]; exact wK p2 hp2
  · rw [u1_o (by omega)] at hk2
    rw [u1_o (by omega)]; exact wO k2 hk2
theorem WFF_7 {G : Nat → Int32} {nF nt F : Nat} {v : Int32} (h : WFF G nF nt F) (hv : -1 ≤ v.toInt ∧ v.toInt ≤ 3) : WFF (u1 G (174 + 84 * F + 7) v) nF nt F := by
  obtain ⟨w0, w1, w2, w3, w4, w5, w6, w7, w8, w9, wN, wR, wK, wO⟩ := h
  refine ⟨by rw [u1_o (by omega)]; exact w0, by rw [u1_o (by omega)]; exact w1, by rw [u1_o (by omega)]; exact w2, by rw [u1_o (by omega)]; exact w3, by rw [u1_o (by omega)]; exact w4, by rw [u1_o (by omega)]; exact w5, by rw [u1_o (by omega)]; exact w6, by rw [u1_i]; exact hv, by rw [u1_o (by omega)]; exact w8, by rw [u1_o (by omega)]; exact w9, fun n hn => ?_, fun q hq => ?_, fun p2 hp2 => ?_, fun k2 hk2 => ?_⟩
  · rw [u1_o (by omega)] at hn
    rw [u1_o (by omega), u1_o (by omega)]; exact wN n hn
  · rw [u1_o (by omega)] at hq
    rw [u1_o (by omega), u1_o (by omega), u1_o (by omega), u1_o (by omega)]; exact wR q hq
  · rw [u1_o (by omega)]; exact wK p2 hp2
  · rw [u1_o (by omega)] at hk2
    rw [u1_o (by omega)]; exact wO k2 hk2
theorem WFF_8 {G : Nat → Int32} {nF nt F : Nat} {v : Int32} (h : WFF G nF nt F) (hv : 0 ≤ v.toInt ∧ v.toInt ≤ 999) : WFF (u1 G (174 + 84 * F + 8) v) nF nt F := by
  obtain ⟨w0, w1, w2, w3, w4, w5, w6, w7, w8, w9, wN, wR, wK, wO⟩ := h
  refine ⟨by rw [u1_o (by omega)]; exact w0, by rw [u1_o (by omega)]; exact w1, by rw [u1_o (by omega)]; exact w2, by rw [u1_o (by omega)]; exact w3, by rw [u1_o (by omega)]; exact w4, by rw [u1_o (by omega)]; exact w5, by rw [u1_o (by omega)]; exact w6, by rw [u1_o (by omega)]; exact w7, by rw [u1_i]; exact hv, by rw [u1_o (by omega)]; exact w9, fun n hn => ?_, fun q hq => ?_, fun p2 hp2 => ?_, fun k2 hk2 => ?_⟩
  · rw [u1_o (by omega)] at hn
    rw [u1_o (by omega), u1_o (by omega)]; exact wN n hn
  · rw [u1_o (by omega)] at hq
    rw [u1_o (by omega), u1_o (by omega), u1_o (by omega), u1_o (by omega)]; exact wR q hq
  · rw [u1_o (by omega)]; exact wK p2 hp2
  · rw [u1_o (by omega)] at hk2
    rw [u1_o (by omega)]; exact wO k2 hk2
theorem WFF_9 {G : Nat → Int32} {nF nt F : Nat} {v : Int32} (h : WFF G nF nt F) (hv : 0 ≤ v.toInt ∧ v.toInt ≤ 999) : WFF (u1 G (174 + 84 * F + 9) v) nF nt F := by
  obtain ⟨w0, w1, w2, w3, w4, w5, w6, w7, w8, w9, wN, wR, wK, wO⟩ := h
  refine ⟨by rw [u1_o (by omega)]; exact w0, by rw [u1_o (by omega)]; exact w1, by rw [u1_o (by omega)]; exact w2, by rw [u1_o (by omega)]; exact w3, by rw [u1_o (by omega)]; exact w4, by rw [u1_o (by omega)]; exact w5, by rw [u1_o (by omega)]; exact w6, by rw [u1_o (by omega)]; exact w7, by rw [u1_o (by omega)]; exact w8, by rw [u1_i]; exact hv, fun n hn => ?_, fun q hq => ?_, fun p2 hp2 => ?_, fun k2 hk2 => ?_⟩
  · rw [u1_o (by omega)] at hn
    rw [u1_o (by omega), u1_o (by omega)]; exact wN n hn
  · rw [u1_o (by omega)] at hq
    rw [u1_o (by omega), u1_o (by omega), u1_o (by omega), u1_o (by omega)]; exact wR q hq
  · rw [u1_o (by omega)]; exact wK p2 hp2
  · rw [u1_o (by omega)] at hk2
    rw [u1_o (by omega)]; exact wO k2 hk2
theorem sub1_1 (x : Int32) : nI 1 - (nI 1 - x) = x := by
  have h : ∀ a : Int32, a - (a - x) = x := fun a => by grind
  exact h _
theorem shk_W {G : Nat → Int32} {nP nF nt f : Nat} (h : WFA G nP nF nt) (hf : f < nF) : WFA (shkG G f) nP nF nt := by
  obtain ⟨tp, kl, sk, fb, nR, nN, nO, fr, to, -, ⟨k0, k1, k2, -⟩, -⟩ := wfn (h.2.2.2.2.1 f hf)
  refine WFA_one h hf (fun j hj => u1_o (by omega)) (WFF_1 (h.2.2.2.2.1 f hf) ?_)
  rw [k0, nI_sub_toInt (by omega) (by omega)]; omega
theorem shk_K {G : Nat → Int32} {nP nF nt f : Nat} {rk : Nat → Nat} (h : WFA G nP nF nt) (hr : RK G nF rk) : RK (shkG G f) nF rk := RK_congr h (fun F hF w hw => u1_o (by omega)) hr
theorem shk_2 {G : Nat → Int32} {f : Nat} : u1 (shkG G f) (174 + 84 * f + 1) (nI 1 - shkG G f (174 + 84 * f + 1)) = G := by
  unfold shkG
  rw [u1_i, sub1_1]; exact u1_u1 rfl
theorem bits_1 {P : Nat → Bool} {n : Nat} : bits P (n + 1) = bitsA P n (P n) := rfl
/-! shelves -/
def WSH (I : Nat → Nat → Int32) (K : Nat → Int32) (nt : Nat) : Prop := ∀ s, s < 8 → ((I 777 s).toInt = -1 ∨ (0 ≤ (I 777 s).toInt ∧ (I 777 s).toInt ≤ 4) ∨ (10 ≤ (I 777 s).toInt ∧ ∃ t : Nat, t < nt ∧ I 780 s = nI t ∧ (I 777 s).toInt = 10 + (K t).toInt)) ∧ ∃ z : Nat, I 778 s = nI z ∧ z ≤ 40
/-- what a call leaves that changes the elements, too -/
def RQZ (I : Nat → Nat → Int32) (R : Nat → Nat → Option Nat) (L : Nat → Nat → Int64) (sh : Nat → Nat × Nat) (N : Nat) (x : Out) (T : Nat → Nat → Int32) (L2 : Nat → Nat → Int64) : Option Value → HS → Prop :=
  fun r h' => ∃ K, h' = (K, R, (match x with | .inl _ => L2 | .inr _ => L), sh, N) ∧ r = some (.int (ansOf x)) ∧ FrS (match x with | .inl _ => T | .inr _ => fin1 765 I x) K
theorem RQZ.val {I K T : Nat → Nat → Int32} {R : Nat → Nat → Option Nat} {L L2 : Nat → Nat → Int64} {sh : Nat → Nat × Nat} {N : Nat} {x : Out} {v : Int32} (e : x = .inl v) (hK : FrS T K) : RQZ I R L sh N x T L2 (some (.int v)) (K, R, L2, sh, N) := by
  subst e; exact ⟨K, rfl, rfl, hK⟩
theorem RQZ.bad {I J K T : Nat → Nat → Int32} {R : Nat → Nat → Option Nat} {L L2 : Nat → Nat → Int64} {sh : Nat → Nat × Nat} {N : Nat} {x : Out} {v : Int32} (j : Nat) (e : x = .inr j) (hv : v = Int32.ofInt (-32 - (j : Int))) (hJ : FrS I J) (hK : K = u2 J 765 j (J 765 j + nI 1)) : RQZ I R L sh N x T L2 (some (.int v)) (K, R, L, sh, N) := by
  obtain ⟨K2, h1, h2, h3⟩ := RQ.bad (R := R) (L := L) (sh := sh) (N := N) j e hv hJ hK
  subst e
  cases h1
  exact ⟨K, rfl, h2, h3⟩
def filL (L : Nat → Nat → Int64) (a b n : Nat) : Nat → Nat → Int64 := fun x j => if x = a ∧ b ≤ j ∧ j < b + n then 0 else L x j
theorem filL_0 {L : Nat → Nat → Int64} {a b : Nat} : filL L a b 0 = L := by
  funext x j; exact if_neg (fun z => by omega)
theorem filL_s {L : Nat → Nat → Int64} {a b n : Nat} : u2 (filL L a b n) a (b + n) 0 = filL L a b (n + 1) := by
  funext x j
  unfold u2 filL
  by_cases e : x = a ∧ j = b + n
  · rw [if_pos e, if_pos ⟨e.1, by omega, by omega⟩]
  · rw [if_neg e]
    by_cases e2 : x = a ∧ b ≤ j ∧ j < b + n
    · rw [if_pos e2, if_pos ⟨e2.1, by omega, by omega⟩]
    · rw [if_neg e2, if_neg (fun z => by
        by_cases q : j = b + n
        · exact e ⟨z.1, q⟩
        · exact e2 ⟨z.1, z.2.1, by omega⟩)]
def lowL (s : Int32) (v : Int64) : Int64 := if s.toInt = 0 then v.toInt32.toInt8.toInt32.toInt64 else if s.toInt = 1 then v.toInt32.toInt16.toInt32.toInt64 else if s.toInt = 2 then v.toInt32.toInt64 else if s.toInt = 3 then v else if v.toInt = 0 then 0 else 1
def cpE (L : Nat → Nat → Int64) (D S : Nat) (P : Nat → Bool) : Nat → Nat → Int64 := fun x m => if x = 779 ∧ P m = true then L 779 (m - D + S) else L x m
theorem cpE_s {L : Nat → Nat → Int64} {D S x : Nat} {P P' : Nat → Bool} (h : ∀ m, P' m = (P m || decide (m = D + x))) : u2 (cpE L D S P) 779 (D + x) (L 779 (S + x)) = cpE L D S P' := by
  funext a m
  unfold u2 cpE
  by_cases e : a = 779 ∧ m = D + x
  · rw [if_pos e, if_pos ⟨e.1, by rw [h, e.2]; simp⟩, e.2]; congr 1; omega
  · rw [if_neg e]
    by_cases e2 : a = 779 ∧ P m = true
    · rw [if_pos e2, if_pos ⟨e2.1, by rw [h, e2.2]; rfl⟩]
    · rw [if_neg e2, if_neg (fun z => by
        have := z.2
        rw [h, Bool.or_eq_true] at this
        rcases this with q | q
        · exact e2 ⟨z.1, q⟩
        · exact e ⟨z.1, of_decide_eq_true q⟩)]
def o_row (s k n : Int32) : Out := if (0 ≤ s.toInt ∧ s.toInt ≤ 7) ∧ (0 ≤ k.toInt ∧ k.toInt ≤ 4) ∧ 0 ≤ n.toInt ∧ n.toInt ≤ 40 then .inl (nI 1) else .inr 0
def o_set (so sz : Nat → Int32) (s i : Int32) : Out := if 0 ≤ s.toInt ∧ s.toInt ≤ 7 then (if 4 < (so s.toInt.toNat).toInt then .inr 1 else if (so s.toInt.toNat).toInt < 0 then .inr 2 else if 0 ≤ i.toInt ∧ i.toInt < (sz s.toInt.toNat).toInt then .inl (nI 1) else .inr 0) else .inr 0
def o_copy (so sz : Nat → Int32) (p q i j n : Int32) : Out := if (0 ≤ p.toInt ∧ p.toInt ≤ 7) ∧ 0 ≤ q.toInt ∧ q.toInt ≤ 7 then
  (if 4 < (so p.toInt.toNat).toInt ∨ 4 < (so q.toInt.toNat).toInt ∨ (0 ≤ (so p.toInt.toNat).toInt ∧ 0 ≤ (so q.toInt.toNat).toInt ∧ (so p.toInt.toNat).toInt ≠ (so q.toInt.toNat).toInt) then .inr 1
   else if (so p.toInt.toNat).toInt < 0 ∨ (so q.toInt.toNat).toInt < 0 then .inr 2
   else if 0 ≤ i.toInt ∧ 0 ≤ j.toInt ∧ 0 ≤ n.toInt ∧ i.toInt + n.toInt ≤ (sz p.toInt.toNat).toInt ∧ j.toInt + n.toInt ≤ (sz q.toInt.toNat).toInt then .inl n else .inr 0) else .inr 0
def L_copy (L : Nat → Nat → Int64) (p q i j n : Int32) : Nat → Nat → Int64 := cpE L (40 * q.toInt.toNat + j.toInt.toNat) (40 * p.toInt.toNat + i.toInt.toNat) (fun m => decide (40 * q.toInt.toNat + j.toInt.toNat ≤ m ∧ m < 40 * q.toInt.toNat + j.toInt.toNat + n.toInt.toNat))
def v_element (so sz : Nat → Int32) (L : Nat → Int64) (s i : Int32) : Int64 := if (0 ≤ s.toInt ∧ s.toInt ≤ 7) ∧ (0 ≤ (so s.toInt.toNat).toInt ∧ (so s.toInt.toNat).toInt ≤ 4) ∧ 0 ≤ i.toInt ∧ i.toInt < (sz s.toInt.toNat).toInt then L (40 * s.toInt.toNat + i.toInt.toNat) else 0
def o_holds (so : Nat → Int32) (s : Int32) : Out := if 0 ≤ s.toInt ∧ s.toInt ≤ 7 then .inl (so s.toInt.toNat) else .inl (-1)
theorem l_M_shakes_32 {d : Nat} {I : Nat → Nat → Int32} {R : Nat → Nat → Option Nat} {L : Nat → Nat → Int64} {sh : Nat → Nat × Nat} {N : Nat} (hS : ShOK sh) (hR : RfOK R) {kA fA cA gA nk nt : Nat} (hT : TRf R sh kA fA cA gA nk) (hTn : TNe kA fA cA gA) (hV : TV (I kA) (I fA) (I cA) nt) (hnt : nt ≤ nk) (hnk : nk ≤ 1000000) {nP nF : Nat} (hW : WFA (I 762) nP nF nt) {rk : Nat → Nat} (hrk : RK (I 762) nF rk) {f F : Nat} (hf : f < nF) (hF : F < nF) (hW1 : WFA (shkG (I 762) f) nP nF nt) (hrk1 : RK (shkG (I 762) f) nF rk) {P : Nat → Bool} (hd : nt + 40 ≤ d) {Q : Option Value → HS → Prop} (hk : ∀ J, FrS (setR I 762 (I 762)) J → Run mi_M_shakes d 0 0 108 [(0, .ref 761), (1, .int (nI f)), (2, .int (bitsA P F (anyB (shkP (TRE I kA fA cA gA) (I 762) f F) nP))), (3, .int (nI F))] [] (J, R, L, sh, N) Q) : ∀ (n_ : Nat) (i : Nat) (J : Nat → Nat → Int32), nP - i = n_ → (FrS (setR I 762 (I 762)) J) → (i ≤ nP) → Run mi_M_shakes d 0 0 32 [(0, .ref 761), (1, .int (nI f)), (2, .int (bitsA P F (anyB (shkP (TRE I kA fA cA gA) (I 762) f F) i))), (3, .int (nI F)), (4, .int (nI i))] [] (J, R, L, sh, N) Q := by
  intro n_
  induction n_ using Nat.strongRecOn with | ind n_ ih_ => ?_
  intro i J hn_ v0_ v1_
  have hGJ := v0_.row2
  obtain ⟨hPc, hP24, hFc, hF12, hWF, hWP⟩ := id hW
  refine r_iload (pc2 := 34) d_M_shakes_32 rfl rfl ?_
  refine r_aload_n (x := some 761) (pc2 := 35) d_M_shakes_34 rfl rfl ?_
  refine q_getR (x := some 762) (pc2 := 38) d_M_shakes_35 rfl k_M_9 rfl (sh_761 hS) (rf_761_0 hR) ?_
  refine r_iconst (v := nI 0) (pc2 := 39) d_M_shakes_38 rfl (by decide) ?_
  refine q_iaload (q := 0) (x := nI nP) (pc2 := 40) d_M_shakes_39 rfl (sh_762 hS) (nI_toInt (by omega)) (by omega) ((congrFun hGJ _).trans (hPc)) ?_
  refine q_icmp_ge (tgt := 108) (A := ((i : Nat) : Int)) (B := ((nP : Nat) : Int)) (pc2 := 43) d_M_shakes_40 rfl rfl (nI_toInt (by omega)) (nI_toInt (by omega)) (fun c1 => ?_) (fun c1 => ?_)
  · refine Run.sub (l2 := [(0, .ref 761), (1, .int (nI f)), (2, .int (bitsA P F (anyB (shkP (TRE I kA fA cA gA) (I 762) f F) i))), (3, .int (nI F))]) ⟨rfl, rfl, rfl, rfl, trivial⟩ ?_
    rw [show i = nP by omega]; exact hk J v0_
  · refine r_aload_n (x := some 761) (pc2 := 44) d_M_shakes_43 rfl rfl ?_
    refine r_iload_n (pc2 := 45) d_M_shakes_44 rfl rfl ?_
    refine r_iload (pc2 := 47) d_M_shakes_45 rfl rfl ?_
    refine r_callv (M2 := mi_M_fresh) (pc2 := 50) d_M_shakes_47 rfl k_M_201 cm_M_fresh cv_M_fresh (sh_761 hS) (by decide) rfl rfl rfl (Nat.le_of_ble_eq_true rfl) (c_M_freshG hS hR hT hTn hV hnt hnk (G := (I 762)) hW hrk (p := i) (by omega) (F := F) (by omega) (J := J) v0_ (d := d - 1) (by omega)) (d2 := d - 1) (by omega) (Nat.le_of_eq (Nat.zero_add _)) (Nat.le_of_eq (Nat.zero_add _)) (fun r2 h2 hq2 => ?_)
    obtain ⟨K2, rfl, rfl, hAK2, haK2, hbK2, hcK2⟩ := hq2
    change Run _ _ _ _ _ _ [.int ((AN (TRE I kA fA cA gA) (I 762) i F).1)] _ _
    have hK2 : FrS (setR I 762 (I 762)) K2 := v0_.tr hAK2.s
    have hGK2 := hK2.row2
    refine r_istore (pc2 := 52) d_M_shakes_50 rfl (Nat.le_of_ble_eq_true rfl) ?_
    refine r_aload_n (x := some 761) (pc2 := 53) d_M_shakes_52 rfl rfl ?_
    refine r_iload_n (pc2 := 54) d_M_shakes_53 rfl rfl ?_
    refine r_iconst (v := nI 1) (pc2 := 55) d_M_shakes_54 rfl (by decide) ?_
    refine r_iconst (v := nI 1) (pc2 := 56) d_M_shakes_55 rfl (by decide) ?_
    refine r_aload_n (x := some 761) (pc2 := 57) d_M_shakes_56 rfl rfl ?_
    refine r_iload_n (pc2 := 58) d_M_shakes_57 rfl rfl ?_
    refine r_iconst (v := nI 1) (pc2 := 59) d_M_shakes_58 rfl (by decide) ?_
    refine q_callv (M2 := mi_M_of) (pc2 := 62) d_M_shakes_59 rfl k_M_76 cm_M_of cv_M_of (sh_761 hS) (by decide) rfl rfl rfl (Nat.le_of_ble_eq_true rfl) (c_M_of (I := K2) (F := f) (W := 1) hS hR (by omega)) (d2 := d - 1) (by omega) (Nat.le_of_eq (Nat.zero_add _)) (Nat.le_of_eq (Nat.zero_add _)) ?_
    refine q_top (y := (I 762) (174 + 84 * f + 1)) (congrFun hGK2 _) ?_
    refine r_isub (pc2 := 63) d_M_shakes_62 rfl ?_
    refine q_callvV (M2 := mi_M_is) (pc2 := 66) d_M_shakes_63 rfl k_M_157 cm_M_is cv_M_is (sh_761 hS) (by decide) rfl rfl rfl (Nat.le_of_ble_eq_true rfl) (c_M_is (I := K2) (F := f) (W := 1) (v := (nI 1) - ((I 762) (174 + 84 * f + 1))) hS hR (by omega)) (d2 := d - 1) (by omega) (Nat.le_of_eq (Nat.zero_add _)) (Nat.le_of_eq (Nat.zero_add _)) ?_
    obtain ⟨I3, hI3⟩ : ∃ x, x = u2 K2 762 (174 + 84 * f + 1) ((nI 1) - ((I 762) (174 + 84 * f + 1))) := ⟨_, rfl⟩
    rw [← hI3]
    obtain ⟨D1, hD1⟩ : ∃ D1, D1 = shkG (I 762) f := ⟨_, rfl⟩
    have fD1 : FrS (setR I 762 D1) I3 := by rw [hD1]; unfold shkG; exact (setR_put hK2 hI3)
    have rD1 := fD1.row2
    refine r_iload_n (pc2 := 67) d_M_shakes_66 rfl rfl ?_
    refine r_aload_n (x := some 761) (pc2 := 68) d_M_shakes_67 rfl rfl ?_
    refine r_iload_n (pc2 := 69) d_M_shakes_68 rfl rfl ?_
    refine r_iload (pc2 := 71) d_M_shakes_69 rfl rfl ?_
    refine r_callv (M2 := mi_M_fresh) (pc2 := 74) d_M_shakes_71 rfl k_M_201 cm_M_fresh cv_M_fresh (sh_761 hS) (by decide) rfl rfl rfl (Nat.le_of_ble_eq_true rfl) (c_M_freshG hS hR hT hTn hV hnt hnk (G := D1) (by rw [hD1]; exact hW1) (by rw [hD1]; exact hrk1) (p := i) (by omega) (F := F) (by omega) (J := I3) fD1 (d := d - 1) (by omega)) (d2 := d - 1) (by omega) (Nat.le_of_eq (Nat.zero_add _)) (Nat.le_of_eq (Nat.zero_add _)) (fun r2 h2 hq2 => ?_)
    obtain ⟨K4, rfl, rfl, hAK4, haK4, hbK4, hcK4⟩ := hq2
    change Run _ _ _ _ _ _ [.int ((AN (TRE I kA fA cA gA) D1 i F).1), .int (bitsA P F (anyB (shkP (TRE I kA fA cA gA) (I 762) f F) i))] _ _
    have hK4 : FrS (setR I 762 D1) K4 := fD1.tr hAK4.s
    have hGK4 := hK4.row2
    refine r_iload (pc2 := 76) d_M_shakes_74 rfl rfl ?_
    refine q_icmp_eq (tgt := 85) (A := ((AN (TRE I kA fA cA gA) D1 i F).1).toInt) (B := ((AN (TRE I kA fA cA gA) (I 762) i F).1).toInt) (pc2 := 79) d_M_shakes_76 rfl rfl (rfl) (rfl) (fun c5 => ?_) (fun c5 => ?_)
    · refine r_iconst (v := nI 0) (pc2 := 86) d_M_shakes_85 rfl (by decide) ?_
      refine r_ior (pc2 := 87) d_M_shakes_86 rfl ?_
      have hQi : anyB (shkP (TRE I kA fA cA gA) (I 762) f F) (i + 1) = (anyB (shkP (TRE I kA fA cA gA) (I 762) f F) i || false) := by rw [anyB_s]; congr 1; unfold shkP; rw [← hD1]; exact decide_eq_false (by omega)
      refine q_top (y := bitsA P F (anyB (shkP (TRE I kA fA cA gA) (I 762) f F) (i + 1))) (by rw [hQi, Bool.or_false, or_0]) ?_
      refine r_istore_n (pc2 := 88) d_M_shakes_87 rfl rfl (Nat.le_of_ble_eq_true rfl) ?_
      refine r_aload_n (x := some 761) (pc2 := 89) d_M_shakes_88 rfl rfl ?_
      refine r_iload_n (pc2 := 90) d_M_shakes_89 rfl rfl ?_
      refine r_iconst (v := nI 1) (pc2 := 91) d_M_shakes_90 rfl (by decide) ?_
      refine r_iconst (v := nI 1) (pc2 := 92) d_M_shakes_91 rfl (by decide) ?_
      refine r_aload_n (x := some 761) (pc2 := 93) d_M_shakes_92 rfl rfl ?_
      refine r_iload_n (pc2 := 94) d_M_shakes_93 rfl rfl ?_
      refine r_iconst (v := nI 1) (pc2 := 95) d_M_shakes_94 rfl (by decide) ?_
      refine q_callv (M2 := mi_M_of) (pc2 := 98) d_M_shakes_95 rfl k_M_76 cm_M_of cv_M_of (sh_761 hS) (by decide) rfl rfl rfl (Nat.le_of_ble_eq_true rfl) (c_M_of (I := K4) (F := f) (W := 1) hS hR (by omega)) (d2 := d - 1) (by omega) (Nat.le_of_eq (Nat.zero_add _)) (Nat.le_of_eq (Nat.zero_add _)) ?_
      refine q_top (y := D1 (174 + 84 * f + 1)) (congrFun hGK4 _) ?_
      refine r_isub (pc2 := 99) d_M_shakes_98 rfl ?_
      refine q_callvV (M2 := mi_M_is) (pc2 := 102) d_M_shakes_99 rfl k_M_157 cm_M_is cv_M_is (sh_761 hS) (by decide) rfl rfl rfl (Nat.le_of_ble_eq_true rfl) (c_M_is (I := K4) (F := f) (W := 1) (v := (nI 1) - (D1 (174 + 84 * f + 1))) hS hR (by omega)) (d2 := d - 1) (by omega) (Nat.le_of_eq (Nat.zero_add _)) (Nat.le_of_eq (Nat.zero_add _)) ?_
      obtain ⟨I6, hI6⟩ : ∃ x, x = u2 K4 762 (174 + 84 * f + 1) ((nI 1) - (D1 (174 + 84 * f + 1))) := ⟨_, rfl⟩
      rw [← hI6]
      refine q_iinc (b := 1) (pc2 := 105) d_M_shakes_102 rfl rfl (by decide) (Nat.le_of_ble_eq_true rfl) ?_
      refine r_goto (tgt := 32) d_M_shakes_105 rfl ?_
      have ffin : FrS (setR I 762 (I 762)) I6 := by have q := (setR_put hK4 hI6); rw [hD1, shk_2] at q; exact q
      refine Run.sub (l2 := [(0, .ref 761), (1, .int (nI f)), (2, .int (bitsA P F (anyB (shkP (TRE I kA fA cA gA) (I 762) f F) (i + 1)))), (3, .int (nI F)), (4, .int (nI (i + 1)))]) ⟨rfl, rfl, rfl, rfl, rfl, trivial⟩ ?_
      exact ih_ (nP - (i + 1)) (by omega) (i + 1) I6 rfl (ffin) (by omega)
    · refine r_iconst (v := nI 1) (pc2 := 80) d_M_shakes_79 rfl (by decide) ?_
      refine r_iload_n (pc2 := 81) d_M_shakes_80 rfl rfl ?_
      refine r_ishl (pc2 := 82) d_M_shakes_81 rfl ?_
      refine r_goto (tgt := 86) d_M_shakes_82 rfl ?_
      refine r_ior (pc2 := 87) d_M_shakes_86 rfl ?_
      have hQi : anyB (shkP (TRE I kA fA cA gA) (I 762) f F) (i + 1) = (anyB (shkP (TRE I kA fA cA gA) (I 762) f F) i || true) := by rw [anyB_s]; congr 1; unfold shkP; rw [← hD1]; exact decide_eq_true (by omega)
      refine q_top (y := bitsA P F (anyB (shkP (TRE I kA fA cA gA) (I 762) f F) (i + 1))) (by rw [hQi, Bool.or_true, bitsA_t]) ?_
      refine r_istore_n (pc2 := 88) d_M_shakes_87 rfl rfl (Nat.le_of_ble_eq_true rfl) ?_
      refine r_aload_n (x := some 761) (pc2 := 89) d_M_shakes_88 rfl rfl ?_
      refine r_iload_n (pc2 := 90) d_M_shakes_89 rfl rfl ?_
      refine r_iconst (v := nI 1) (pc2 := 91) d_M_shakes_90 rfl (by decide) ?_
      refine r_iconst (v := nI 1) (pc2 := 92) d_M_shakes_91 rfl (by decide) ?_
      refine r_aload_n (x := some 761) (pc2 := 93) d_M_shakes_92 rfl rfl ?_
      refine r_iload_n (pc2 := 94) d_M_shakes_93 rfl rfl ?_
      refine r_iconst (v := nI 1) (pc2 := 95) d_M_shakes_94 rfl (by decide) ?_
      refine q_callv (M2 := mi_M_of) (pc2 := 98) d_M_shakes_95 rfl k_M_76 cm_M_of cv_M_of (sh_761 hS) (by decide) rfl rfl rfl (Nat.le_of_ble_eq_true rfl) (c_M_of (I := K4) (F := f) (W := 1) hS hR (by omega)) (d2 := d - 1) (by omega) (Nat.le_of_eq (Nat.zero_add _)) (Nat.le_of_eq (Nat.zero_add _)) ?_
      refine q_top (y := D1 (174 + 84 * f + 1)) (congrFun hGK4 _) ?_
      refine r_isub (pc2 := 99) d_M_shakes_98 rfl ?_
      refine q_callvV (M2 := mi_M_is) (pc2 := 102) d_M_shakes_99 rfl k_M_157 cm_M_is cv_M_is (sh_761 hS) (by decide) rfl rfl rfl (Nat.le_of_ble_eq_true rfl) (c_M_is (I := K4) (F := f) (W := 1) (v := (nI 1) - (D1 (174 + 84 * f + 1))) hS hR (by omega)) (d2 := d - 1) (by omega) (Nat.le_of_eq (Nat.zero_add _)) (Nat.le_of_eq (Nat.zero_add _)) ?_
      obtain ⟨I7, hI7⟩ : ∃ x, x = u2 K4 762 (174 + 84 * f + 1) ((nI 1) - (D1 (174 + 84 * f + 1))) := ⟨_, rfl⟩
      rw [← hI7]
      refine q_iinc (b := 1) (pc2 := 105) d_M_shakes_102 rfl rfl (by decide) (Nat.le_of_ble_eq_true rfl) ?_
      refine r_goto (tgt := 32) d_M_shakes_105 rfl ?_
      have ffin : FrS (setR I 762 (I 762)) I7 := by have q := (setR_put hK4 hI7); rw [hD1, shk_2] at q; exact q
      refine Run.sub (l2 := [(0, .ref 761), (1, .int (nI f)), (2, .int (bitsA P F (anyB (shkP (TRE I kA fA cA gA) (I 762) f F) (i + 1)))), (3, .int (nI F)), (4, .int (nI (i + 1)))]) ⟨rfl, rfl, rfl, rfl, rfl, trivial⟩ ?_
      exact ih_ (nP - (i + 1)) (by omega) (i + 1) I7 rfl (ffin) (by omega)
theorem l_M_shakes_19 {d : Nat} {I : Nat → Nat → Int32} {R : Nat → Nat → Option Nat} {L : Nat → Nat → Int64} {sh : Nat → Nat × Nat} {N : Nat} (hS : ShOK sh) (hR : RfOK R) {kA fA cA gA nk nt : Nat} (hT : TRf R sh kA fA cA gA nk) (hTn : TNe kA fA cA gA) (hV : TV (I kA) (I fA) (I cA) nt) (hnt : nt ≤ nk) (hnk : nk ≤ 1000000) {nP nF : Nat} (hW : WFA (I 762) nP nF nt) {rk : Nat → Nat} (hrk : RK (I 762) nF rk) {f : Nat} (hf : f < nF) {P : Nat → Bool} (hP : ∀ F, P F = anyB (shkP (TRE I kA fA cA gA) (I 762) f F) nP) {Q : Option Value → HS → Prop} (hq : ∀ J, FrS (setR I 762 (I 762)) J → Q (some (.int (bits P nF))) (J, R, L, sh, N)) (hd : nt + 40 ≤ d) : ∀ (n_ : Nat) (F : Nat) (J : Nat → Nat → Int32), nF - F = n_ → (FrS (setR I 762 (I 762)) J) → (F ≤ nF) → Run mi_M_shakes d 0 0 19 [(0, .ref 761), (1, .int (nI f)), (2, .int (bits P F)), (3, .int (nI F))] [] (J, R, L, sh, N) Q := by
  intro n_
  induction n_ using Nat.strongRecOn with | ind n_ ih_ => ?_
  intro F J hn_ v0_ v1_
  have hGJ := v0_.row2
  obtain ⟨hPc, hP24, hFc, hF12, hWF, hWP⟩ := id hW
  have hW1 := shk_W hW hf
  have hrk1 := shk_K (f := f) hW hrk
  refine r_iload_n (pc2 := 20) d_M_shakes_19 rfl rfl ?_
  refine r_aload_n (x := some 761) (pc2 := 21) d_M_shakes_20 rfl rfl ?_
  refine q_getR (x := some 762) (pc2 := 24) d_M_shakes_21 rfl k_M_9 rfl (sh_761 hS) (rf_761_0 hR) ?_
  refine r_iconst (v := nI 1) (pc2 := 25) d_M_shakes_24 rfl (by decide) ?_
  refine q_iaload (q := 1) (x := nI nF) (pc2 := 26) d_M_shakes_25 rfl (sh_762 hS) (nI_toInt (by omega)) (by omega) ((congrFun hGJ _).trans (hFc)) ?_
  refine q_icmp_ge (tgt := 114) (A := ((F : Nat) : Int)) (B := ((nF : Nat) : Int)) (pc2 := 29) d_M_shakes_26 rfl rfl (nI_toInt (by omega)) (nI_toInt (by omega)) (fun c1 => ?_) (fun c1 => ?_)
  · refine r_iload_n (pc2 := 115) d_M_shakes_114 rfl rfl ?_
    refine Run.ret (some (.int (bits P F))) d_M_shakes_115 ⟨_, rfl⟩ ?_
    rw [show F = nF by omega]; exact hq J v0_
  · refine r_iconst (v := nI 0) (pc2 := 30) d_M_shakes_29 rfl (by decide) ?_
    refine r_istore (pc2 := 32) d_M_shakes_30 rfl (Nat.le_of_ble_eq_true rfl) ?_
    refine Run.sub (l2 := [(0, .ref 761), (1, .int (nI f)), (2, .int (bits P F)), (3, .int (nI F)), (4, .int (nI 0))]) ⟨rfl, rfl, rfl, rfl, rfl, trivial⟩ ?_
    refine l_M_shakes_32 hS hR hT hTn hV hnt hnk hW hrk (f := f) (F := F) (by omega) (by omega) hW1 hrk1 (P := P) (by omega) (hk := fun J2 hJ2 => ?_) _ 0 J rfl v0_ (by omega)
    rw [show bitsA P F (anyB (shkP (TRE I kA fA cA gA) (I 762) f F) nP) = bits P (F + 1) by rw [bits_1, hP]]
    have hGJ2 := hJ2.row2
    refine q_iinc (b := 1) (pc2 := 111) d_M_shakes_108 rfl rfl (by decide) (Nat.le_of_ble_eq_true rfl) ?_
    refine r_goto (tgt := 19) d_M_shakes_111 rfl ?_
    refine Run.sub (l2 := [(0, .ref 761), (1, .int (nI f)), (2, .int (bits P (F + 1))), (3, .int (nI (F + 1)))]) ⟨rfl, rfl, rfl, rfl, trivial⟩ ?_
    exact ih_ (nF - (F + 1)) (by omega) (F + 1) J2 rfl (hJ2) (by omega)
theorem c_M_shakes {d : Nat} {I : Nat → Nat → Int32} {R : Nat → Nat → Option Nat} {L : Nat → Nat → Int64} {sh : Nat → Nat × Nat} {N : Nat} (hS : ShOK sh) (hR : RfOK R) {kA fA cA gA nk nt : Nat} (hT : TRf R sh kA fA cA gA nk) (hTn : TNe kA fA cA gA) (hV : TV (I kA) (I fA) (I cA) nt) (hnt : nt ≤ nk) (hnk : nk ≤ 1000000) {nP nF : Nat} (hW : WFA (I 762) nP nF nt) {rk : Nat → Nat} (hrk : RK (I 762) nF rk) {f : Int32} (hd : nt + 60 ≤ d) : Mt mi_M_shakes d 0 0 [.ref 761, .int f] (I, R, L, sh, N) (RQ I R L sh N (o_shakes (TRE I kA fA cA gA) (I 762) nP nF f)) := by
  obtain ⟨hPc, hP24, hFc, hF12, hWF, hWP⟩ := id hW
  obtain ⟨hn1, hn2, hn3, hn4⟩ := id hTn
  refine Mt.of pn_M (Nat.le_of_ble_eq_true rfl) ?_
  show Run mi_M_shakes d 0 0 0 [(0, .ref 761), (1, .int f)] [] (I, R, L, sh, N) _
  refine r_aload_n (x := some 761) (pc2 := 1) d_M_shakes_0 rfl rfl ?_
  refine r_iload_n (pc2 := 2) d_M_shakes_1 rfl rfl ?_
  refine q_callv (M2 := mi_M_isFeature) (pc2 := 5) d_M_shakes_2 rfl k_M_72 cm_M_isFeature cv_M_isFeature (sh_761 hS) (by decide) rfl rfl rfl (Nat.le_of_ble_eq_true rfl) (c_M_isFeature (I := I) (nF := nF) (f := f) hS hR (hFc) hF12 (by omega)) (d2 := d - 1) (by omega) (Nat.le_of_eq (Nat.zero_add _)) (Nat.le_of_eq (Nat.zero_add _)) ?_
  refine q_bif_ne (tgt := 15) (pc2 := 8) d_M_shakes_5 rfl rfl (fun c1 => ?_) (fun c1 => ?_)
  · obtain ⟨fN, hfN, rfl, efN⟩ := nat_of c1
    obtain ⟨tpfN, klfN, skfN, fbfN, nRfN, nNfN, nOfN, frfN, tofN, ⟨a0fN, b0fN, cc0fN, dd0fN⟩, ⟨a1fN, b1fN, cc1fN, dd1fN⟩, ⟨a2fN, b2fN, cc2fN, dd2fN⟩, ⟨a3fN, b3fN, cc3fN, dd3fN⟩, ⟨a4fN, b4fN, cc4fN, dd4fN⟩, ⟨a5fN, b5fN, cc5fN, dd5fN⟩, ⟨a6fN, b6fN, cc6fN, dd6fN⟩, ⟨a8fN, b8fN, cc8fN, dd8fN⟩, ⟨a9fN, b9fN, cc9fN, dd9fN⟩⟩ := wfn (hWF fN hfN)
    obtain ⟨-, -, -, -, -, -, -, w7fN, -, -, wNfN, wRfN, wKfN, wOfN⟩ := hWF fN hfN
    refine r_iconst (v := nI 0) (pc2 := 16) d_M_shakes_15 rfl (by decide) ?_
    refine r_istore_n (pc2 := 17) d_M_shakes_16 rfl rfl (Nat.le_of_ble_eq_true rfl) ?_
    refine r_iconst (v := nI 0) (pc2 := 18) d_M_shakes_17 rfl (by decide) ?_
    refine r_istore_n (pc2 := 19) d_M_shakes_18 rfl rfl (Nat.le_of_ble_eq_true rfl) ?_
    refine Run.sub (l2 := [(0, .ref 761), (1, .int (nI fN)), (2, .int (bits (fun F => anyB (shkP (TRE I kA fA cA gA) (I 762) fN F) nP) 0)), (3, .int (nI 0))]) ⟨rfl, rfl, rfl, rfl, trivial⟩ ?_
    exact l_M_shakes_19 hS hR hT hTn hV hnt hnk hW hrk (f := fN) (by omega) (fun F => rfl) (fun J hJ => RQ.val (by (try simp only [efN, b0fN, b1fN, b2fN, b3fN, b4fN, b5fN, b6fN, b8fN, b9fN, Int.toNat_natCast] at c1); (unfold o_shakes); (try dsimp only); (try simp only [efN, b0fN, b1fN, b2fN, b3fN, b4fN, b5fN, b6fN, b8fN, b9fN, Int.toNat_natCast]); (repeat (first | rw [if_pos (by omega)] | rw [if_neg (by omega)])); (try rfl); (all_goals first | rfl | (simp only [a0fN, a1fN, a2fN, a3fN, a4fN, a5fN, a6fN, a8fN, a9fN]; done) | (congr 2; omega) | ((repeat' split) <;> first | rfl | (simp only [a0fN, a1fN, a2fN, a3fN, a4fN, a5fN, a6fN, a8fN, a9fN]; done) | (exfalso; omega) | (congr 2; omega) | skip))) (by rw [setR_self] at hJ; exact hJ)) (by omega) _ 0 I rfl FrS.rf.set (by omega)
  · refine r_aload_n (x := some 761) (pc2 := 9) d_M_shakes_8 rfl rfl ?_
    refine r_bipush (v := (-32 : Int32)) (pc2 := 11) d_M_shakes_9 rfl (by decide) ?_
    refine q_callv (M2 := mi_M_refused) (pc2 := 14) d_M_shakes_11 rfl k_M_106 cm_M_refused cv_M_refused (sh_761 hS) (by decide) rfl rfl rfl (Nat.le_of_ble_eq_true rfl) (c_M_refused_0 (I := I) hS hR) (d2 := d - 1) (by omega) (Nat.le_of_eq (Nat.zero_add _)) (Nat.le_of_eq (Nat.zero_add _)) ?_
    obtain ⟨I2, hI2⟩ : ∃ x, x = u2 I 765 0 (I 765 0 + nI 1) := ⟨_, rfl⟩
    rw [← hI2]
    refine Run.ret (some (.int ((-32 : Int32)))) d_M_shakes_14 ⟨_, rfl⟩ ?_
    exact RQ.bad 0 (by (unfold o_shakes); (try dsimp only); (try simp only [Int.toNat_natCast]); (repeat (first | rw [if_pos (by omega)] | rw [if_neg (by omega)])); (try rfl); (all_goals first | rfl | (congr 2; omega) | ((repeat' split) <;> first | rfl | (exfalso; omega) | (congr 2; omega) | skip)); (try rfl)) (by decide) FrS.rf hI2
theorem c_M_isShelf {d : Nat} {h : HS} {s : Int32} (hd : 1 ≤ d) : Me mi_M_isShelf d 0 0 [.int s] h (some (.int (bI (0 ≤ s.toInt ∧ s.toInt ≤ 7)))) h := by
  refine Mt.of pn_M (Nat.le_of_ble_eq_true rfl) ?_
  show Run mi_M_isShelf d 0 0 0 [(0, .int s)] [] h _
  refine r_iload_n (pc2 := 1) d_M_isShelf_0 rfl rfl ?_
  refine r_i2l (pc2 := 2) d_M_isShelf_1 rfl ?_
  refine r_lconst (v := (0 : Int64)) (pc2 := 3) d_M_isShelf_2 rfl (by decide) ?_
  refine r_ldc2 (pc2 := 6) d_M_isShelf_3 rfl k_M_253 ?_
  refine q_calls (M2 := mi_M_in) (pc2 := 9) d_M_isShelf_6 rfl k_M_68 cm_M_in cs_M_in rfl rfl (Nat.le_of_ble_eq_true rfl) (c_M_in (A := s.toInt) (B := (0 : Int)) (C := (7 : Int)) (toInt64_toInt (rfl)) (by decide) (by decide)) (d2 := d - 1) (by omega) (Nat.le_of_eq (Nat.zero_add _)) (Nat.le_of_eq (Nat.zero_add _)) ?_
  refine Run.ret (some (.int (bI ((0 : Int) ≤ s.toInt ∧ s.toInt ≤ (7 : Int))))) d_M_isShelf_9 ⟨_, rfl, bI_01 _⟩ ?_
  exact ⟨rfl, rfl⟩
theorem l_M_row {d : Nat} {I : Nat → Nat → Int32} {R : Nat → Nat → Option Nat} {L : Nat → Nat → Int64} {sh : Nat → Nat × Nat} {N : Nat} (hS : ShOK sh) (hR : RfOK R) {s : Nat} {k n : Int32} (hs8 : s < 8) {Q : Option Value → HS → Prop} (hk : Run mi_M_row d 0 0 81 [] [] (I, R, filL L 779 (40 * s) 40, sh, N) Q) : ∀ (n_ : Nat) (i : Nat) (L1 : Nat → Nat → Int64), 40 - i = n_ → (L1 = filL L 779 (40 * s) i) → (i ≤ 40) → Run mi_M_row d 0 0 55 [(0, .ref 761), (1, .int (nI s)), (2, .int k), (3, .int n), (4, .int (nI i))] [] (I, R, L1, sh, N) Q := by
  intro n_
  induction n_ using Nat.strongRecOn with | ind n_ ih_ => ?_
  intro i L1 hn_ v0_ v1_
  refine r_iload (pc2 := 57) d_M_row_55 rfl rfl ?_
  refine r_bipush (v := nI 40) (pc2 := 59) d_M_row_57 rfl (by decide) ?_
  refine q_icmp_ge (tgt := 81) (A := ((i : Nat) : Int)) (B := (40 : Int)) (pc2 := 62) d_M_row_59 rfl rfl (nI_toInt (by omega)) (nI_toInt (by omega)) (fun c1 => ?_) (fun c1 => ?_)
  · refine Run.sub (l2 := []) trivial ?_
    rw [v0_, show i = 40 by omega]; exact hk
  · refine r_aload_n (x := some 761) (pc2 := 63) d_M_row_62 rfl rfl ?_
    refine q_getR (x := some 779) (pc2 := 66) d_M_row_63 rfl k_M_61 rfl (sh_761 hS) (rf_761_29 hR) ?_
    refine r_bipush (v := nI 40) (pc2 := 68) d_M_row_66 rfl (by decide) ?_
    refine r_iload_n (pc2 := 69) d_M_row_68 rfl rfl ?_
    refine q_imulN (pc2 := 70) d_M_row_69 rfl ?_
    refine r_iload (pc2 := 72) d_M_row_70 rfl rfl ?_
    refine q_iaddN (pc2 := 73) d_M_row_72 rfl ?_
    refine r_lconst (v := (0 : Int64)) (pc2 := 74) d_M_row_73 rfl (by decide) ?_
    refine q_lastore (q := 40 * s + i) (pc2 := 75) d_M_row_74 rfl (sh_779 hS) (nI_toInt (by omega)) (by omega) (fun L2 hL2 => ?_)
    refine q_iinc (b := 1) (pc2 := 78) d_M_row_75 rfl rfl (by decide) (Nat.le_of_ble_eq_true rfl) ?_
    refine r_goto (tgt := 55) d_M_row_78 rfl ?_
    refine Run.sub (l2 := [(0, .ref 761), (1, .int (nI s)), (2, .int k), (3, .int n), (4, .int (nI (i + 1)))]) ⟨rfl, rfl, rfl, rfl, rfl, trivial⟩ ?_
    exact ih_ (40 - (i + 1)) (by omega) (i + 1) L2 rfl (by rw [hL2, v0_, filL_s]) (by omega)
theorem c_M_row {d : Nat} {I : Nat → Nat → Int32} {R : Nat → Nat → Option Nat} {L : Nat → Nat → Int64} {sh : Nat → Nat × Nat} {N : Nat} (hS : ShOK sh) (hR : RfOK R) {kA fA cA gA nk nt : Nat} (hT : TRf R sh kA fA cA gA nk) (hTn : TNe kA fA cA gA) (hV : TV (I kA) (I fA) (I cA) nt) (hnt : nt ≤ nk) (hnk : nk ≤ 1000000) {nP nF : Nat} (hW : WFA (I 762) nP nF nt) {rk : Nat → Nat} (hrk : RK (I 762) nF rk) {s : Int32} {k : Int32} {n : Int32} (hWS : WSH I (I kA) nt) (hd : nt + 60 ≤ d) : Mt mi_M_row d 0 0 [.ref 761, .int s, .int k, .int n] (I, R, L, sh, N) (RQZ I R L sh N (o_row s k n) (u2 (u2 I 777 s.toInt.toNat k) 778 s.toInt.toNat n) (filL L 779 (40 * s.toInt.toNat) 40)) := by
  obtain ⟨hPc, hP24, hFc, hF12, hWF, hWP⟩ := id hW
  obtain ⟨hn1, hn2, hn3, hn4⟩ := id hTn
  refine Mt.of pn_M (Nat.le_of_ble_eq_true rfl) ?_
  show Run mi_M_row d 0 0 0 [(0, .ref 761), (1, .int s), (2, .int k), (3, .int n)] [] (I, R, L, sh, N) _
  refine r_iload_n (pc2 := 1) d_M_row_0 rfl rfl ?_
  refine q_calls (M2 := mi_M_isShelf) (pc2 := 4) d_M_row_1 rfl k_M_288 cm_M_isShelf cs_M_isShelf rfl rfl (Nat.le_of_ble_eq_true rfl) (c_M_isShelf (s := s) (by omega)) (d2 := d - 1) (by omega) (Nat.le_of_eq (Nat.zero_add _)) (Nat.le_of_eq (Nat.zero_add _)) ?_
  refine q_bif_eq (tgt := 31) (pc2 := 7) d_M_row_4 rfl rfl (fun c1 => ?_) (fun c1 => ?_)
  · refine r_aload_n (x := some 761) (pc2 := 32) d_M_row_31 rfl rfl ?_
    refine r_bipush (v := (-32 : Int32)) (pc2 := 34) d_M_row_32 rfl (by decide) ?_
    refine q_callv (M2 := mi_M_refused) (pc2 := 37) d_M_row_34 rfl k_M_106 cm_M_refused cv_M_refused (sh_761 hS) (by decide) rfl rfl rfl (Nat.le_of_ble_eq_true rfl) (c_M_refused_0 (I := I) hS hR) (d2 := d - 1) (by omega) (Nat.le_of_eq (Nat.zero_add _)) (Nat.le_of_eq (Nat.zero_add _)) ?_
    obtain ⟨I2, hI2⟩ : ∃ x, x = u2 I 765 0 (I 765 0 + nI 1) := ⟨_, rfl⟩
    rw [← hI2]
    refine Run.ret (some (.int ((-32 : Int32)))) d_M_row_37 ⟨_, rfl⟩ ?_
    exact RQZ.bad 0 (by (unfold o_row); (try dsimp only); (try simp only [Int.toNat_natCast]); (repeat (first | rw [if_pos (by omega)] | rw [if_neg (by omega)])); (try rfl); (all_goals first | rfl | (congr 2; omega) | ((repeat' split) <;> first | rfl | (exfalso; omega) | (congr 2; omega) | skip))) (by decide) FrS.rf hI2
  · obtain ⟨sN, hsN, gsN, rfl, esN⟩ := nat_of' (Int.le_refl 0) c1
    obtain ⟨hsosN, szsN, hszsN, hzlsN⟩ := hWS sN (by omega)
    have hztsN : (I 778 sN).toInt = (szsN : Int) := by rw [hszsN, nI_toInt (by omega)]
    refine r_iload_n (pc2 := 8) d_M_row_7 rfl rfl ?_
    refine r_i2l (pc2 := 9) d_M_row_8 rfl ?_
    refine r_lconst (v := (0 : Int64)) (pc2 := 10) d_M_row_9 rfl (by decide) ?_
    refine r_ldc2 (pc2 := 13) d_M_row_10 rfl k_M_291 ?_
    refine q_calls (M2 := mi_M_in) (pc2 := 16) d_M_row_13 rfl k_M_68 cm_M_in cs_M_in rfl rfl (Nat.le_of_ble_eq_true rfl) (c_M_in (A := k.toInt) (B := (0 : Int)) (C := (4 : Int)) (toInt64_toInt (rfl)) (by decide) (by decide)) (d2 := d - 1) (by omega) (Nat.le_of_eq (Nat.zero_add _)) (Nat.le_of_eq (Nat.zero_add _)) ?_
    refine q_bif_eq (tgt := 31) (pc2 := 19) d_M_row_16 rfl rfl (fun c3 => ?_) (fun c3 => ?_)
    · refine r_aload_n (x := some 761) (pc2 := 32) d_M_row_31 rfl rfl ?_
      refine r_bipush (v := (-32 : Int32)) (pc2 := 34) d_M_row_32 rfl (by decide) ?_
      refine q_callv (M2 := mi_M_refused) (pc2 := 37) d_M_row_34 rfl k_M_106 cm_M_refused cv_M_refused (sh_761 hS) (by decide) rfl rfl rfl (Nat.le_of_ble_eq_true rfl) (c_M_refused_0 (I := I) hS hR) (d2 := d - 1) (by omega) (Nat.le_of_eq (Nat.zero_add _)) (Nat.le_of_eq (Nat.zero_add _)) ?_
      obtain ⟨I4, hI4⟩ : ∃ x, x = u2 I 765 0 (I 765 0 + nI 1) := ⟨_, rfl⟩
      rw [← hI4]
      refine Run.ret (some (.int ((-32 : Int32)))) d_M_row_37 ⟨_, rfl⟩ ?_
      exact RQZ.bad 0 (by (try simp only [esN, hztsN, Int.toNat_natCast] at c1 c3); (unfold o_row); (try dsimp only); (try simp only [esN, hztsN, Int.toNat_natCast]); (repeat (first | rw [if_pos (by omega)] | rw [if_neg (by omega)])); (try rfl); (all_goals first | rfl | (congr 2; omega) | ((repeat' split) <;> first | rfl | (exfalso; omega) | (congr 2; omega) | skip))) (by decide) FrS.rf hI4
    · obtain ⟨kN, hkN, gkN, rfl, ekN⟩ := nat_of' (show (0 : Int) ≤ (0 : Int) by decide) c3
      refine r_iload_n (pc2 := 20) d_M_row_19 rfl rfl ?_
      refine r_i2l (pc2 := 21) d_M_row_20 rfl ?_
      refine r_lconst (v := (0 : Int64)) (pc2 := 22) d_M_row_21 rfl (by decide) ?_
      refine r_ldc2 (pc2 := 25) d_M_row_22 rfl k_M_293 ?_
      refine q_calls (M2 := mi_M_in) (pc2 := 28) d_M_row_25 rfl k_M_68 cm_M_in cs_M_in rfl rfl (Nat.le_of_ble_eq_true rfl) (c_M_in (A := n.toInt) (B := (0 : Int)) (C := (40 : Int)) (toInt64_toInt (rfl)) (by decide) (by decide)) (d2 := d - 1) (by omega) (Nat.le_of_eq (Nat.zero_add _)) (Nat.le_of_eq (Nat.zero_add _)) ?_
      refine q_bif_ne (tgt := 38) (pc2 := 31) d_M_row_28 rfl rfl (fun c5 => ?_) (fun c5 => ?_)
      · obtain ⟨nN, hnN, gnN, rfl, enN⟩ := nat_of' (show (0 : Int) ≤ (0 : Int) by decide) c5
        refine r_aload_n (x := some 761) (pc2 := 39) d_M_row_38 rfl rfl ?_
        refine q_getR (x := some 777) (pc2 := 42) d_M_row_39 rfl k_M_55 rfl (sh_761 hS) (rf_761_27 hR) ?_
        refine r_iload_n (pc2 := 43) d_M_row_42 rfl rfl ?_
        refine r_iload_n (pc2 := 44) d_M_row_43 rfl rfl ?_
        refine q_iastore (q := sN) (pc2 := 45) d_M_row_44 rfl (sh_777 hS) (nI_toInt (by omega)) (by omega) (fun I6 hI6 => ?_)
        refine r_aload_n (x := some 761) (pc2 := 46) d_M_row_45 rfl rfl ?_
        refine q_getR (x := some 778) (pc2 := 49) d_M_row_46 rfl k_M_58 rfl (sh_761 hS) (rf_761_28 hR) ?_
        refine r_iload_n (pc2 := 50) d_M_row_49 rfl rfl ?_
        refine r_iload_n (pc2 := 51) d_M_row_50 rfl rfl ?_
        refine q_iastore (q := sN) (pc2 := 52) d_M_row_51 rfl (sh_778 hS) (nI_toInt (by omega)) (by omega) (fun I7 hI7 => ?_)
        refine r_iconst (v := nI 0) (pc2 := 53) d_M_row_52 rfl (by decide) ?_
        refine r_istore (pc2 := 55) d_M_row_53 rfl (Nat.le_of_ble_eq_true rfl) ?_
        refine Run.sub (l2 := [(0, .ref 761), (1, .int (nI sN)), (2, .int (nI kN)), (3, .int (nI nN)), (4, .int (nI 0))]) ⟨rfl, rfl, rfl, rfl, rfl, trivial⟩ ?_
        refine l_M_row hS hR (I := I7) (s := sN) (k := nI kN) (n := nI nN) (by omega) (hk := ?_) _ 0 L rfl filL_0.symm (by omega)
        refine r_iconst (v := nI 1) (pc2 := 82) d_M_row_81 rfl (by decide) ?_
        refine Run.ret (some (.int (nI 1))) d_M_row_82 ⟨_, rfl⟩ ?_
        rw [show (filL L 779 (40 * sN) 40) = (filL L 779 (40 * (nI sN).toInt.toNat) 40) from by simp only [esN, Int.toNat_natCast]]
        exact RQZ.val (by (try simp only [esN, hztsN, ekN, enN, Int.toNat_natCast] at c1 c3 c5); (unfold o_row); (try dsimp only); (try simp only [esN, hztsN, ekN, enN, Int.toNat_natCast]); (repeat (first | rw [if_pos (by omega)] | rw [if_neg (by omega)])); (try rfl); (all_goals first | rfl | (congr 2; omega) | ((repeat' split) <;> first | rfl | (exfalso; omega) | (congr 2; omega) | skip))) (by simp only [esN, Int.toNat_natCast]; rw [hI7, hI6]; exact FrS.rf)
      · refine r_aload_n (x := some 761) (pc2 := 32) d_M_row_31 rfl rfl ?_
        refine r_bipush (v := (-32 : Int32)) (pc2 := 34) d_M_row_32 rfl (by decide) ?_
        refine q_callv (M2 := mi_M_refused) (pc2 := 37) d_M_row_34 rfl k_M_106 cm_M_refused cv_M_refused (sh_761 hS) (by decide) rfl rfl rfl (Nat.le_of_ble_eq_true rfl) (c_M_refused_0 (I := I) hS hR) (d2 := d - 1) (by omega) (Nat.le_of_eq (Nat.zero_add _)) (Nat.le_of_eq (Nat.zero_add _)) ?_
        obtain ⟨I8, hI8⟩ : ∃ x, x = u2 I 765 0 (I 765 0 + nI 1) := ⟨_, rfl⟩
        rw [← hI8]
        refine Run.ret (some (.int ((-32 : Int32)))) d_M_row_37 ⟨_, rfl⟩ ?_
        exact RQZ.bad 0 (by (try simp only [esN, hztsN, ekN, Int.toNat_natCast] at c1 c3 c5); (unfold o_row); (try dsimp only); (try simp only [esN, hztsN, ekN, Int.toNat_natCast]); (repeat (first | rw [if_pos (by omega)] | rw [if_neg (by omega)])); (try rfl); (all_goals first | rfl | (congr 2; omega) | ((repeat' split) <;> first | rfl | (exfalso; omega) | (congr 2; omega) | skip))) (by decide) FrS.rf hI8
theorem c_M_lowest {d : Nat} {h : HS} {k : Int32} {v : Int64} : Me mi_M_lowest d 0 0 [.int k, .long v] h (some (.long (lowL k v))) h := by
  refine Mt.of pn_M (Nat.le_of_ble_eq_true rfl) ?_
  show Run mi_M_lowest d 0 0 0 [(0, .int k), (1, .long v)] [] h _
  refine r_iload_n (pc2 := 1) d_M_lowest_0 rfl rfl ?_
  refine q_switch (tgt := 48) (A := k.toInt) d_M_lowest_1 rfl (rfl) (fun off t2 c1a c1b c1o c1t => ?_) (by decide) (by decide) (fun c1 => ?_)
  · have c1c : k.toInt = 0 ∨ k.toInt = 1 ∨ k.toInt = 2 ∨ k.toInt = 3 := by omega
    rcases c1c with c1e | c1e | c1e | c1e
    · obtain rfl : t2 = 32 := by
        have hh : (some (31 : Int)) = some off := by rw [c1e] at c1o; exact c1o
        cases hh; omega
      refine r_lload_n (pc2 := 33) d_M_lowest_32 rfl rfl ?_
      refine r_l2i (pc2 := 34) d_M_lowest_33 rfl ?_
      refine r_i2b (pc2 := 35) d_M_lowest_34 rfl ?_
      refine r_i2l (pc2 := 36) d_M_lowest_35 rfl ?_
      refine Run.ret (some (.long v.toInt32.toInt8.toInt32.toInt64)) d_M_lowest_36 ⟨_, rfl⟩ ?_
      exact ⟨congrArg (fun z => some (Value.long z)) (by unfold lowL; (repeat (first | rw [if_pos (by omega)] | rw [if_neg (by omega)])); (try rfl)), rfl⟩
    · obtain rfl : t2 = 37 := by
        have hh : (some (36 : Int)) = some off := by rw [c1e] at c1o; exact c1o
        cases hh; omega
      refine r_lload_n (pc2 := 38) d_M_lowest_37 rfl rfl ?_
      refine r_l2i (pc2 := 39) d_M_lowest_38 rfl ?_
      refine r_i2s (pc2 := 40) d_M_lowest_39 rfl ?_
      refine r_i2l (pc2 := 41) d_M_lowest_40 rfl ?_
      refine Run.ret (some (.long v.toInt32.toInt16.toInt32.toInt64)) d_M_lowest_41 ⟨_, rfl⟩ ?_
      exact ⟨congrArg (fun z => some (Value.long z)) (by unfold lowL; (repeat (first | rw [if_pos (by omega)] | rw [if_neg (by omega)])); (try rfl)), rfl⟩
    · obtain rfl : t2 = 42 := by
        have hh : (some (41 : Int)) = some off := by rw [c1e] at c1o; exact c1o
        cases hh; omega
      refine r_lload_n (pc2 := 43) d_M_lowest_42 rfl rfl ?_
      refine r_l2i (pc2 := 44) d_M_lowest_43 rfl ?_
      refine r_i2l (pc2 := 45) d_M_lowest_44 rfl ?_
      refine Run.ret (some (.long v.toInt32.toInt64)) d_M_lowest_45 ⟨_, rfl⟩ ?_
      exact ⟨congrArg (fun z => some (Value.long z)) (by unfold lowL; (repeat (first | rw [if_pos (by omega)] | rw [if_neg (by omega)])); (try rfl)), rfl⟩
    · obtain rfl : t2 = 46 := by
        have hh : (some (45 : Int)) = some off := by rw [c1e] at c1o; exact c1o
        cases hh; omega
      refine r_lload_n (pc2 := 47) d_M_lowest_46 rfl rfl ?_
      refine Run.ret (some (.long v)) d_M_lowest_47 ⟨_, rfl⟩ ?_
      exact ⟨congrArg (fun z => some (Value.long z)) (by unfold lowL; (repeat (first | rw [if_pos (by omega)] | rw [if_neg (by omega)])); (try rfl)), rfl⟩
  · refine r_lload_n (pc2 := 49) d_M_lowest_48 rfl rfl ?_
    refine r_lconst (v := (0 : Int64)) (pc2 := 50) d_M_lowest_49 rfl (by decide) ?_
    refine r_lcmp (pc2 := 51) d_M_lowest_50 rfl ?_
    refine q_lif_ne (tgt := 58) (A := v.toInt) (B := (0 : Int)) (pc2 := 54) d_M_lowest_51 rfl rfl (rfl) (by decide) (fun c2 => ?_) (fun c2 => ?_)
    · refine r_lconst (v := (1 : Int64)) (pc2 := 59) d_M_lowest_58 rfl (by decide) ?_
      refine Run.ret (some (.long ((1 : Int64)))) d_M_lowest_59 ⟨_, rfl⟩ ?_
      exact ⟨congrArg (fun z => some (Value.long z)) (by unfold lowL; (repeat (first | rw [if_pos (by omega)] | rw [if_neg (by omega)])); (try rfl)), rfl⟩
    · refine r_lconst (v := (0 : Int64)) (pc2 := 55) d_M_lowest_54 rfl (by decide) ?_
      refine r_goto (tgt := 59) d_M_lowest_55 rfl ?_
      refine Run.ret (some (.long ((0 : Int64)))) d_M_lowest_59 ⟨_, rfl⟩ ?_
      exact ⟨congrArg (fun z => some (Value.long z)) (by unfold lowL; (repeat (first | rw [if_pos (by omega)] | rw [if_neg (by omega)])); (try rfl)), rfl⟩
theorem c_M_set {d : Nat} {I : Nat → Nat → Int32} {R : Nat → Nat → Option Nat} {L : Nat → Nat → Int64} {sh : Nat → Nat × Nat} {N : Nat} (hS : ShOK sh) (hR : RfOK R) {kA fA cA gA nk nt : Nat} (hT : TRf R sh kA fA cA gA nk) (hTn : TNe kA fA cA gA) (hV : TV (I kA) (I fA) (I cA) nt) (hnt : nt ≤ nk) (hnk : nk ≤ 1000000) {nP nF : Nat} (hW : WFA (I 762) nP nF nt) {rk : Nat → Nat} (hrk : RK (I 762) nF rk) {s : Int32} {i : Int32} {v : Int64} (hWS : WSH I (I kA) nt) (hd : nt + 60 ≤ d) : Mt mi_M_set d 0 0 [.ref 761, .int s, .int i, .long v] (I, R, L, sh, N) (RQZ I R L sh N (o_set (I 777) (I 778) s i) (I) (u2 L 779 (40 * s.toInt.toNat + i.toInt.toNat) (lowL (I 777 s.toInt.toNat) v))) := by
  obtain ⟨hPc, hP24, hFc, hF12, hWF, hWP⟩ := id hW
  obtain ⟨hn1, hn2, hn3, hn4⟩ := id hTn
  refine Mt.of pn_M (Nat.le_of_ble_eq_true rfl) ?_
  show Run mi_M_set d 0 0 0 [(0, .ref 761), (1, .int s), (2, .int i), (3, .long v)] [] (I, R, L, sh, N) _
  refine r_iload_n (pc2 := 1) d_M_set_0 rfl rfl ?_
  refine q_calls (M2 := mi_M_isShelf) (pc2 := 4) d_M_set_1 rfl k_M_288 cm_M_isShelf cs_M_isShelf rfl rfl (Nat.le_of_ble_eq_true rfl) (c_M_isShelf (s := s) (by omega)) (d2 := d - 1) (by omega) (Nat.le_of_eq (Nat.zero_add _)) (Nat.le_of_eq (Nat.zero_add _)) ?_
  refine q_bif_ne (tgt := 14) (pc2 := 7) d_M_set_4 rfl rfl (fun c1 => ?_) (fun c1 => ?_)
  · obtain ⟨sN, hsN, gsN, rfl, esN⟩ := nat_of' (Int.le_refl 0) c1
    obtain ⟨hsosN, szsN, hszsN, hzlsN⟩ := hWS sN (by omega)
    have hztsN : (I 778 sN).toInt = (szsN : Int) := by rw [hszsN, nI_toInt (by omega)]
    refine r_aload_n (x := some 761) (pc2 := 15) d_M_set_14 rfl rfl ?_
    refine q_getR (x := some 777) (pc2 := 18) d_M_set_15 rfl k_M_55 rfl (sh_761 hS) (rf_761_27 hR) ?_
    refine r_iload_n (pc2 := 19) d_M_set_18 rfl rfl ?_
    refine q_iaload (q := sN) (x := I 777 sN) (pc2 := 20) d_M_set_19 rfl (sh_777 hS) (nI_toInt (by omega)) (by omega) rfl ?_
    refine r_iconst (v := nI 4) (pc2 := 21) d_M_set_20 rfl (by decide) ?_
    refine q_icmp_le (tgt := 31) (A := (I 777 sN).toInt) (B := (4 : Int)) (pc2 := 24) d_M_set_21 rfl rfl (rfl) (nI_toInt (by omega)) (fun c2 => ?_) (fun c2 => ?_)
    · refine r_aload_n (x := some 761) (pc2 := 32) d_M_set_31 rfl rfl ?_
      refine q_getR (x := some 777) (pc2 := 35) d_M_set_32 rfl k_M_55 rfl (sh_761 hS) (rf_761_27 hR) ?_
      refine r_iload_n (pc2 := 36) d_M_set_35 rfl rfl ?_
      refine q_iaload (q := sN) (x := I 777 sN) (pc2 := 37) d_M_set_36 rfl (sh_777 hS) (nI_toInt (by omega)) (by omega) rfl ?_
      refine q_if_ge (tgt := 47) (A := (I 777 sN).toInt) (pc2 := 40) d_M_set_37 rfl rfl (rfl) (fun c3 => ?_) (fun c3 => ?_)
      · refine r_iload_n (pc2 := 48) d_M_set_47 rfl rfl ?_
        refine r_i2l (pc2 := 49) d_M_set_48 rfl ?_
        refine r_lconst (v := (0 : Int64)) (pc2 := 50) d_M_set_49 rfl (by decide) ?_
        refine r_aload_n (x := some 761) (pc2 := 51) d_M_set_50 rfl rfl ?_
        refine q_getR (x := some 778) (pc2 := 54) d_M_set_51 rfl k_M_58 rfl (sh_761 hS) (rf_761_28 hR) ?_
        refine r_iload_n (pc2 := 55) d_M_set_54 rfl rfl ?_
        refine q_iaload (q := sN) (x := nI szsN) (pc2 := 56) d_M_set_55 rfl (sh_778 hS) (nI_toInt (by omega)) (by omega) hszsN ?_
        refine r_iconst (v := nI 1) (pc2 := 57) d_M_set_56 rfl (by decide) ?_
        refine r_isub (pc2 := 58) d_M_set_57 rfl ?_
        refine r_i2l (pc2 := 59) d_M_set_58 rfl ?_
        refine q_calls (M2 := mi_M_in) (pc2 := 62) d_M_set_59 rfl k_M_68 cm_M_in cs_M_in rfl rfl (Nat.le_of_ble_eq_true rfl) (c_M_in (A := i.toInt) (B := (0 : Int)) (C := ((szsN : Nat) : Int) - ((1 : Nat) : Int)) (toInt64_toInt (rfl)) (by decide) (toInt64_toInt (nI_sub_toInt (by omega) (by omega)))) (d2 := d - 1) (by omega) (Nat.le_of_eq (Nat.zero_add _)) (Nat.le_of_eq (Nat.zero_add _)) ?_
        refine q_bif_ne (tgt := 72) (pc2 := 65) d_M_set_62 rfl rfl (fun c4 => ?_) (fun c4 => ?_)
        · obtain ⟨iN, hiN, giN, rfl, eiN⟩ := nat_of' (show (0 : Int) ≤ (0 : Int) by decide) c4
          refine r_aload_n (x := some 761) (pc2 := 73) d_M_set_72 rfl rfl ?_
          refine q_getR (x := some 779) (pc2 := 76) d_M_set_73 rfl k_M_61 rfl (sh_761 hS) (rf_761_29 hR) ?_
          refine r_bipush (v := nI 40) (pc2 := 78) d_M_set_76 rfl (by decide) ?_
          refine r_iload_n (pc2 := 79) d_M_set_78 rfl rfl ?_
          refine q_imulN (pc2 := 80) d_M_set_79 rfl ?_
          refine r_iload_n (pc2 := 81) d_M_set_80 rfl rfl ?_
          refine q_iaddN (pc2 := 82) d_M_set_81 rfl ?_
          refine r_aload_n (x := some 761) (pc2 := 83) d_M_set_82 rfl rfl ?_
          refine q_getR (x := some 777) (pc2 := 86) d_M_set_83 rfl k_M_55 rfl (sh_761 hS) (rf_761_27 hR) ?_
          refine r_iload_n (pc2 := 87) d_M_set_86 rfl rfl ?_
          refine q_iaload (q := sN) (x := I 777 sN) (pc2 := 88) d_M_set_87 rfl (sh_777 hS) (nI_toInt (by omega)) (by omega) rfl ?_
          refine r_lload_n (pc2 := 89) d_M_set_88 rfl rfl ?_
          refine q_calls (M2 := mi_M_lowest) (pc2 := 92) d_M_set_89 rfl k_M_295 cm_M_lowest cs_M_lowest rfl rfl (Nat.le_of_ble_eq_true rfl) (c_M_lowest (k := I 777 sN) (v := v)) (d2 := d - 1) (by omega) (Nat.le_of_eq (Nat.zero_add _)) (Nat.le_of_eq (Nat.zero_add _)) ?_
          refine q_lastore (q := 40 * sN + iN) (pc2 := 93) d_M_set_92 rfl (sh_779 hS) (nI_toInt (by omega)) (by omega) (fun L5 hL5 => ?_)
          refine r_iconst (v := nI 1) (pc2 := 94) d_M_set_93 rfl (by decide) ?_
          refine Run.ret (some (.int (nI 1))) d_M_set_94 ⟨_, rfl⟩ ?_
          rw [show L5 = (u2 L 779 (40 * (nI sN).toInt.toNat + (nI iN).toInt.toNat) (lowL (I 777 (nI sN).toInt.toNat) v)) from by rw [hL5]; simp only [esN, eiN, Int.toNat_natCast]]
          exact RQZ.val (by (try simp only [esN, hztsN, eiN, Int.toNat_natCast] at c1 c2 c3 c4); (unfold o_set); (try dsimp only); (try simp only [esN, hztsN, eiN, Int.toNat_natCast]); (repeat (first | rw [if_pos (by omega)] | rw [if_neg (by omega)])); (try rfl); (all_goals first | rfl | (congr 2; omega) | ((repeat' split) <;> first | rfl | (exfalso; omega) | (congr 2; omega) | skip))) (by exact FrS.rf)
        · refine r_aload_n (x := some 761) (pc2 := 66) d_M_set_65 rfl rfl ?_
          refine r_bipush (v := (-32 : Int32)) (pc2 := 68) d_M_set_66 rfl (by decide) ?_
          refine q_callv (M2 := mi_M_refused) (pc2 := 71) d_M_set_68 rfl k_M_106 cm_M_refused cv_M_refused (sh_761 hS) (by decide) rfl rfl rfl (Nat.le_of_ble_eq_true rfl) (c_M_refused_0 (I := I) hS hR) (d2 := d - 1) (by omega) (Nat.le_of_eq (Nat.zero_add _)) (Nat.le_of_eq (Nat.zero_add _)) ?_
          obtain ⟨I6, hI6⟩ : ∃ x, x = u2 I 765 0 (I 765 0 + nI 1) := ⟨_, rfl⟩
          rw [← hI6]
          refine Run.ret (some (.int ((-32 : Int32)))) d_M_set_71 ⟨_, rfl⟩ ?_
          exact RQZ.bad 0 (by (try simp only [esN, hztsN, Int.toNat_natCast] at c1 c2 c3 c4); (unfold o_set); (try dsimp only); (try simp only [esN, hztsN, Int.toNat_natCast]); (repeat (first | rw [if_pos (by omega)] | rw [if_neg (by omega)])); (try rfl); (all_goals first | rfl | (congr 2; omega) | ((repeat' split) <;> first | rfl | (exfalso; omega) | (congr 2; omega) | skip))) (by decide) FrS.rf hI6
      · refine r_aload_n (x := some 761) (pc2 := 41) d_M_set_40 rfl rfl ?_
        refine r_bipush (v := (-34 : Int32)) (pc2 := 43) d_M_set_41 rfl (by decide) ?_
        refine q_callv (M2 := mi_M_refused) (pc2 := 46) d_M_set_43 rfl k_M_106 cm_M_refused cv_M_refused (sh_761 hS) (by decide) rfl rfl rfl (Nat.le_of_ble_eq_true rfl) (c_M_refused_2 (I := I) hS hR) (d2 := d - 1) (by omega) (Nat.le_of_eq (Nat.zero_add _)) (Nat.le_of_eq (Nat.zero_add _)) ?_
        obtain ⟨I7, hI7⟩ : ∃ x, x = u2 I 765 2 (I 765 2 + nI 1) := ⟨_, rfl⟩
        rw [← hI7]
        refine Run.ret (some (.int ((-34 : Int32)))) d_M_set_46 ⟨_, rfl⟩ ?_
        exact RQZ.bad 2 (by (try simp only [esN, hztsN, Int.toNat_natCast] at c1 c2 c3); (unfold o_set); (try dsimp only); (try simp only [esN, hztsN, Int.toNat_natCast]); (repeat (first | rw [if_pos (by omega)] | rw [if_neg (by omega)])); (try rfl); (all_goals first | rfl | (congr 2; omega) | ((repeat' split) <;> first | rfl | (exfalso; omega) | (congr 2; omega) | skip))) (by decide) FrS.rf hI7
    · refine r_aload_n (x := some 761) (pc2 := 25) d_M_set_24 rfl rfl ?_
      refine r_bipush (v := (-33 : Int32)) (pc2 := 27) d_M_set_25 rfl (by decide) ?_
      refine q_callv (M2 := mi_M_refused) (pc2 := 30) d_M_set_27 rfl k_M_106 cm_M_refused cv_M_refused (sh_761 hS) (by decide) rfl rfl rfl (Nat.le_of_ble_eq_true rfl) (c_M_refused_1 (I := I) hS hR) (d2 := d - 1) (by omega) (Nat.le_of_eq (Nat.zero_add _)) (Nat.le_of_eq (Nat.zero_add _)) ?_
      obtain ⟨I8, hI8⟩ : ∃ x, x = u2 I 765 1 (I 765 1 + nI 1) := ⟨_, rfl⟩
      rw [← hI8]
      refine Run.ret (some (.int ((-33 : Int32)))) d_M_set_30 ⟨_, rfl⟩ ?_
      exact RQZ.bad 1 (by (try simp only [esN, hztsN, Int.toNat_natCast] at c1 c2); (unfold o_set); (try dsimp only); (try simp only [esN, hztsN, Int.toNat_natCast]); (repeat (first | rw [if_pos (by omega)] | rw [if_neg (by omega)])); (try rfl); (all_goals first | rfl | (congr 2; omega) | ((repeat' split) <;> first | rfl | (exfalso; omega) | (congr 2; omega) | skip))) (by decide) FrS.rf hI8
  · refine r_aload_n (x := some 761) (pc2 := 8) d_M_set_7 rfl rfl ?_
    refine r_bipush (v := (-32 : Int32)) (pc2 := 10) d_M_set_8 rfl (by decide) ?_
    refine q_callv (M2 := mi_M_refused) (pc2 := 13) d_M_set_10 rfl k_M_106 cm_M_refused cv_M_refused (sh_761 hS) (by decide) rfl rfl rfl (Nat.le_of_ble_eq_true rfl) (c_M_refused_0 (I := I) hS hR) (d2 := d - 1) (by omega) (Nat.le_of_eq (Nat.zero_add _)) (Nat.le_of_eq (Nat.zero_add _)) ?_
    obtain ⟨I9, hI9⟩ : ∃ x, x = u2 I 765 0 (I 765 0 + nI 1) := ⟨_, rfl⟩
    rw [← hI9]
    refine Run.ret (some (.int ((-32 : Int32)))) d_M_set_13 ⟨_, rfl⟩ ?_
    exact RQZ.bad 0 (by (unfold o_set); (try dsimp only); (try simp only [Int.toNat_natCast]); (repeat (first | rw [if_pos (by omega)] | rw [if_neg (by omega)])); (try rfl); (all_goals first | rfl | (congr 2; omega) | ((repeat' split) <;> first | rfl | (exfalso; omega) | (congr 2; omega) | skip))) (by decide) FrS.rf hI9
theorem c_M_element {d : Nat} {I : Nat → Nat → Int32} {R : Nat → Nat → Option Nat} {L : Nat → Nat → Int64} {sh : Nat → Nat × Nat} {N : Nat} (hS : ShOK sh) (hR : RfOK R) {kA fA cA gA nk nt : Nat} (hT : TRf R sh kA fA cA gA nk) (hTn : TNe kA fA cA gA) (hV : TV (I kA) (I fA) (I cA) nt) (hnt : nt ≤ nk) (hnk : nk ≤ 1000000) {nP nF : Nat} (hW : WFA (I 762) nP nF nt) {rk : Nat → Nat} (hrk : RK (I 762) nF rk) {s i : Int32} (hWS : WSH I (I kA) nt) (hd : nt + 60 ≤ d) : Me mi_M_element d 0 0 [.ref 761, .int s, .int i] (I, R, L, sh, N) (some (.long (v_element (I 777) (I 778) (L 779) s i))) (I, R, L, sh, N) := by
  refine Mt.of pn_M (Nat.le_of_ble_eq_true rfl) ?_
  show Run mi_M_element d 0 0 0 [(0, .ref 761), (1, .int s), (2, .int i)] [] (I, R, L, sh, N) _
  refine r_iload_n (pc2 := 1) d_M_element_0 rfl rfl ?_
  refine q_calls (M2 := mi_M_isShelf) (pc2 := 4) d_M_element_1 rfl k_M_288 cm_M_isShelf cs_M_isShelf rfl rfl (Nat.le_of_ble_eq_true rfl) (c_M_isShelf (s := s) (by omega)) (d2 := d - 1) (by omega) (Nat.le_of_eq (Nat.zero_add _)) (Nat.le_of_eq (Nat.zero_add _)) ?_
  refine q_bif_eq (tgt := 56) (pc2 := 7) d_M_element_4 rfl rfl (fun c1 => ?_) (fun c1 => ?_)
  · refine r_lconst (v := (0 : Int64)) (pc2 := 57) d_M_element_56 rfl (by decide) ?_
    refine Run.ret (some (.long ((0 : Int64)))) d_M_element_57 ⟨_, rfl⟩ ?_
    exact ⟨congrArg (fun z => some (Value.long z)) (by (unfold v_element); (try dsimp only); (try simp only [Int.toNat_natCast]); (repeat (first | rw [if_pos (by omega)] | rw [if_neg (by omega)])); (try rfl); (all_goals first | rfl | (congr 2; omega) | ((repeat' split) <;> first | rfl | (exfalso; omega) | (congr 2; omega) | skip))), rfl⟩
  · obtain ⟨sN, hsN, gsN, rfl, esN⟩ := nat_of' (Int.le_refl 0) c1
    obtain ⟨hsosN, szsN, hszsN, hzlsN⟩ := hWS sN (by omega)
    have hztsN : (I 778 sN).toInt = (szsN : Int) := by rw [hszsN, nI_toInt (by omega)]
    refine r_aload_n (x := some 761) (pc2 := 8) d_M_element_7 rfl rfl ?_
    refine q_getR (x := some 777) (pc2 := 11) d_M_element_8 rfl k_M_55 rfl (sh_761 hS) (rf_761_27 hR) ?_
    refine r_iload_n (pc2 := 12) d_M_element_11 rfl rfl ?_
    refine q_iaload (q := sN) (x := I 777 sN) (pc2 := 13) d_M_element_12 rfl (sh_777 hS) (nI_toInt (by omega)) (by omega) rfl ?_
    refine r_i2l (pc2 := 14) d_M_element_13 rfl ?_
    refine r_lconst (v := (0 : Int64)) (pc2 := 15) d_M_element_14 rfl (by decide) ?_
    refine r_ldc2 (pc2 := 18) d_M_element_15 rfl k_M_291 ?_
    refine q_calls (M2 := mi_M_in) (pc2 := 21) d_M_element_18 rfl k_M_68 cm_M_in cs_M_in rfl rfl (Nat.le_of_ble_eq_true rfl) (c_M_in (A := (I 777 sN).toInt) (B := (0 : Int)) (C := (4 : Int)) (toInt64_toInt (rfl)) (by decide) (by decide)) (d2 := d - 1) (by omega) (Nat.le_of_eq (Nat.zero_add _)) (Nat.le_of_eq (Nat.zero_add _)) ?_
    refine q_bif_eq (tgt := 56) (pc2 := 24) d_M_element_21 rfl rfl (fun c2 => ?_) (fun c2 => ?_)
    · refine r_lconst (v := (0 : Int64)) (pc2 := 57) d_M_element_56 rfl (by decide) ?_
      refine Run.ret (some (.long ((0 : Int64)))) d_M_element_57 ⟨_, rfl⟩ ?_
      exact ⟨congrArg (fun z => some (Value.long z)) (by (try simp only [esN, hztsN, Int.toNat_natCast] at c1 c2); (unfold v_element); (try dsimp only); (try simp only [esN, hztsN, Int.toNat_natCast]); (repeat (first | rw [if_pos (by omega)] | rw [if_neg (by omega)])); (try rfl); (all_goals first | rfl | (congr 2; omega) | ((repeat' split) <;> first | rfl | (exfalso; omega) | (congr 2; omega) | skip))), rfl⟩
    · refine r_iload_n (pc2 := 25) d_M_element_24 rfl rfl ?_
      refine r_i2l (pc2 := 26) d_M_element_25 rfl ?_
      refine r_lconst (v := (0 : Int64)) (pc2 := 27) d_M_element_26 rfl (by decide) ?_
      refine r_aload_n (x := some 761) (pc2 := 28) d_M_element_27 rfl rfl ?_
      refine q_getR (x := some 778) (pc2 := 31) d_M_element_28 rfl k_M_58 rfl (sh_761 hS) (rf_761_28 hR) ?_
      refine r_iload_n (pc2 := 32) d_M_element_31 rfl rfl ?_
      refine q_iaload (q := sN) (x := nI szsN) (pc2 := 33) d_M_element_32 rfl (sh_778 hS) (nI_toInt (by omega)) (by omega) hszsN ?_
      refine r_iconst (v := nI 1) (pc2 := 34) d_M_element_33 rfl (by decide) ?_
      refine r_isub (pc2 := 35) d_M_element_34 rfl ?_
      refine r_i2l (pc2 := 36) d_M_element_35 rfl ?_
      refine q_calls (M2 := mi_M_in) (pc2 := 39) d_M_element_36 rfl k_M_68 cm_M_in cs_M_in rfl rfl (Nat.le_of_ble_eq_true rfl) (c_M_in (A := i.toInt) (B := (0 : Int)) (C := ((szsN : Nat) : Int) - ((1 : Nat) : Int)) (toInt64_toInt (rfl)) (by decide) (toInt64_toInt (nI_sub_toInt (by omega) (by omega)))) (d2 := d - 1) (by omega) (Nat.le_of_eq (Nat.zero_add _)) (Nat.le_of_eq (Nat.zero_add _)) ?_
      refine q_bif_eq (tgt := 56) (pc2 := 42) d_M_element_39 rfl rfl (fun c3 => ?_) (fun c3 => ?_)
      · refine r_lconst (v := (0 : Int64)) (pc2 := 57) d_M_element_56 rfl (by decide) ?_
        refine Run.ret (some (.long ((0 : Int64)))) d_M_element_57 ⟨_, rfl⟩ ?_
        exact ⟨congrArg (fun z => some (Value.long z)) (by (try simp only [esN, hztsN, Int.toNat_natCast] at c1 c2 c3); (unfold v_element); (try dsimp only); (try simp only [esN, hztsN, Int.toNat_natCast]); (repeat (first | rw [if_pos (by omega)] | rw [if_neg (by omega)])); (try rfl); (all_goals first | rfl | (congr 2; omega) | ((repeat' split) <;> first | rfl | (exfalso; omega) | (congr 2; omega) | skip))), rfl⟩
      · obtain ⟨iN, hiN, giN, rfl, eiN⟩ := nat_of' (show (0 : Int) ≤ (0 : Int) by decide) c3
        refine r_aload_n (x := some 761) (pc2 := 43) d_M_element_42 rfl rfl ?_
        refine q_getR (x := some 779) (pc2 := 46) d_M_element_43 rfl k_M_61 rfl (sh_761 hS) (rf_761_29 hR) ?_
        refine r_bipush (v := nI 40) (pc2 := 48) d_M_element_46 rfl (by decide) ?_
        refine r_iload_n (pc2 := 49) d_M_element_48 rfl rfl ?_
        refine q_imulN (pc2 := 50) d_M_element_49 rfl ?_
        refine r_iload_n (pc2 := 51) d_M_element_50 rfl rfl ?_
        refine q_iaddN (pc2 := 52) d_M_element_51 rfl ?_
        refine q_laload (q := 40 * sN + iN) (x := L 779 (40 * sN + iN)) (pc2 := 53) d_M_element_52 rfl (sh_779 hS) (nI_toInt (by omega)) (by omega) rfl ?_
        refine r_goto (tgt := 57) d_M_element_53 rfl ?_
        refine Run.ret (some (.long (L 779 (40 * sN + iN)))) d_M_element_57 ⟨_, rfl⟩ ?_
        exact ⟨congrArg (fun z => some (Value.long z)) (by (try simp only [esN, hztsN, eiN, Int.toNat_natCast] at c1 c2 c3); (unfold v_element); (try dsimp only); (try simp only [esN, hztsN, eiN, Int.toNat_natCast]); (repeat (first | rw [if_pos (by omega)] | rw [if_neg (by omega)])); (try rfl); (all_goals first | rfl | (congr 2; omega) | ((repeat' split) <;> first | rfl | (exfalso; omega) | (congr 2; omega) | skip))), rfl⟩
theorem c_M_holds {d : Nat} {I : Nat → Nat → Int32} {R : Nat → Nat → Option Nat} {L : Nat → Nat → Int64} {sh : Nat → Nat × Nat} {N : Nat} (hS : ShOK sh) (hR : RfOK R) {kA fA cA gA nk nt : Nat} (hT : TRf R sh kA fA cA gA nk) (hTn : TNe kA fA cA gA) (hV : TV (I kA) (I fA) (I cA) nt) (hnt : nt ≤ nk) (hnk : nk ≤ 1000000) {nP nF : Nat} (hW : WFA (I 762) nP nF nt) {rk : Nat → Nat} (hrk : RK (I 762) nF rk) {s : Int32} (hWS : WSH I (I kA) nt) (hd : nt + 60 ≤ d) : Mt mi_M_holds d 0 0 [.ref 761, .int s] (I, R, L, sh, N) (RQ I R L sh N (o_holds (I 777) s)) := by
  obtain ⟨hPc, hP24, hFc, hF12, hWF, hWP⟩ := id hW
  obtain ⟨hn1, hn2, hn3, hn4⟩ := id hTn
  refine Mt.of pn_M (Nat.le_of_ble_eq_true rfl) ?_
  show Run mi_M_holds d 0 0 0 [(0, .ref 761), (1, .int s)] [] (I, R, L, sh, N) _
  refine r_iload_n (pc2 := 1) d_M_holds_0 rfl rfl ?_
  refine q_calls (M2 := mi_M_isShelf) (pc2 := 4) d_M_holds_1 rfl k_M_288 cm_M_isShelf cs_M_isShelf rfl rfl (Nat.le_of_ble_eq_true rfl) (c_M_isShelf (s := s) (by omega)) (d2 := d - 1) (by omega) (Nat.le_of_eq (Nat.zero_add _)) (Nat.le_of_eq (Nat.zero_add _)) ?_
  refine q_bif_eq (tgt := 16) (pc2 := 7) d_M_holds_4 rfl rfl (fun c1 => ?_) (fun c1 => ?_)
  · refine r_iconst (v := (-1 : Int32)) (pc2 := 17) d_M_holds_16 rfl (by decide) ?_
    refine Run.ret (some (.int ((-1 : Int32)))) d_M_holds_17 ⟨_, rfl⟩ ?_
    exact RQ.val (by (unfold o_holds); (try dsimp only); (try simp only [Int.toNat_natCast]); (repeat (first | rw [if_pos (by omega)] | rw [if_neg (by omega)])); (try rfl); (all_goals first | rfl | (congr 2; omega) | ((repeat' split) <;> first | rfl | (exfalso; omega) | (congr 2; omega) | skip)); (try rfl)) FrS.rf
  · obtain ⟨sN, hsN, gsN, rfl, esN⟩ := nat_of' (Int.le_refl 0) c1
    obtain ⟨hsosN, szsN, hszsN, hzlsN⟩ := hWS sN (by omega)
    have hztsN : (I 778 sN).toInt = (szsN : Int) := by rw [hszsN, nI_toInt (by omega)]
    refine r_aload_n (x := some 761) (pc2 := 8) d_M_holds_7 rfl rfl ?_
    refine q_getR (x := some 777) (pc2 := 11) d_M_holds_8 rfl k_M_55 rfl (sh_761 hS) (rf_761_27 hR) ?_
    refine r_iload_n (pc2 := 12) d_M_holds_11 rfl rfl ?_
    refine q_iaload (q := sN) (x := I 777 sN) (pc2 := 13) d_M_holds_12 rfl (sh_777 hS) (nI_toInt (by omega)) (by omega) rfl ?_
    refine r_goto (tgt := 17) d_M_holds_13 rfl ?_
    refine Run.ret (some (.int (I 777 sN))) d_M_holds_17 ⟨_, rfl⟩ ?_
    exact RQ.val (by (try simp only [esN, hztsN, Int.toNat_natCast] at c1); (unfold o_holds); (try dsimp only); (try simp only [esN, hztsN, Int.toNat_natCast]); (repeat (first | rw [if_pos (by omega)] | rw [if_neg (by omega)])); (try rfl); (all_goals first | rfl | (congr 2; omega) | ((repeat' split) <;> first | rfl | (exfalso; omega) | (congr 2; omega) | skip)); (try rfl)) FrS.rf
