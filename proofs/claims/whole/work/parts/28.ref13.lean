/-! THE REFERENCE: rules; what changes -/
def u1 (G : Nat → Int32) (i : Nat) (v : Int32) : Nat → Int32 := fun j => if j = i then v else G j
def setR (I : Nat → Nat → Int32) (a : Nat) (G : Nat → Int32) : Nat → Nat → Int32 := fun b j => if b = a then G j else I b j
theorem setR_self {I : Nat → Nat → Int32} {a : Nat} : setR I a (I a) = I := by
  funext b j
  unfold setR
  by_cases h : b = a
  · rw [if_pos h, h]
  · rw [if_neg h]
theorem FrS.set {I J : Nat → Nat → Int32} (h : FrS I J) : FrS (setR I 762 (I 762)) J := by rw [setR_self]; exact h
theorem FrS.row2 {I J : Nat → Nat → Int32} {G : Nat → Int32} (h : FrS (setR I 762 G) J) : J 762 = G := funext fun j => (h 762 j (by unfold scr; omega)).trans (if_pos rfl)
theorem setR_put {I J K : Nat → Nat → Int32} {G : Nat → Int32} {i : Nat} {v : Int32} (h : FrS (setR I 762 G) J) (e : K = u2 J 762 i v) : FrS (setR I 762 (u1 G i v)) K := by
  intro a j q
  subst e
  have h3 := h a j q
  unfold u2
  unfold setR at h3 ⊢
  by_cases e1 : a = 762
  · rw [if_pos e1] at h3 ⊢
    unfold u1
    by_cases e2 : j = i
    · rw [if_pos ⟨e1, e2⟩, if_pos e2]
    · rw [if_neg (fun z => e2 z.2), if_neg e2]; exact h3
  · rw [if_neg (fun z => e1 z.1), if_neg e1]
    rw [if_neg e1] at h3; exact h3
theorem fin1_762 {I : Nat → Nat → Int32} {x : Out} : (fin1 765 I x) 762 = I 762 := by
  cases x with
  | inl v => rfl
  | inr j =>
    funext k
    show u2 I 765 j (I 765 j + nI 1) 762 k = I 762 k
    unfold u2
    rw [if_neg (fun z => absurd z.1 (by decide))]
/-- what a call of the reference that changes the row g leaves -/
def RQW (I : Nat → Nat → Int32) (R : Nat → Nat → Option Nat) (L : Nat → Nat → Int64) (sh : Nat → Nat × Nat) (N : Nat) (x : Out) (G : Nat → Int32) : Option Value → HS → Prop :=
  fun r h' => ∃ K, h' = (K, R, L, sh, N) ∧ r = some (.int (ansOf x)) ∧ FrS (setR (fin1 765 I x) 762 G) K
theorem RQW.val {I K : Nat → Nat → Int32} {R : Nat → Nat → Option Nat} {L : Nat → Nat → Int64} {sh : Nat → Nat × Nat} {N : Nat} {x : Out} {G : Nat → Int32} {v : Int32} (e : x = .inl v) (hK : FrS (setR I 762 G) K) : RQW I R L sh N x G (some (.int v)) (K, R, L, sh, N) := by
  subst e; exact ⟨K, rfl, rfl, hK⟩
theorem RQW.bad {I J K : Nat → Nat → Int32} {R : Nat → Nat → Option Nat} {L : Nat → Nat → Int64} {sh : Nat → Nat × Nat} {N : Nat} {x : Out} {G : Nat → Int32} {v : Int32} (j : Nat) (e : x = .inr j) (eG : G = I 762) (hv : v = Int32.ofInt (-32 - (j : Int))) (hJ : FrS I J) (hK : K = u2 J 765 j (J 765 j + nI 1)) : RQW I R L sh N x G (some (.int v)) (K, R, L, sh, N) := by
  obtain ⟨K2, h1, h2, h3⟩ := RQ.bad (R := R) (L := L) (sh := sh) (N := N) j e hv hJ hK
  refine ⟨K2, h1, h2, ?_⟩
  subst eG
  rw [← fin1_762 (I := I) (x := x), setR_self]; exact h3
theorem c_M_isRuleW {d : Nat} {I : Nat → Nat → Int32} {R : Nat → Nat → Option Nat} {L : Nat → Nat → Int64} {sh : Nat → Nat × Nat} {N : Nat} (hS : ShOK sh) (hR : RfOK R) {kA fA cA gA nk nt : Nat} (hT : TRf R sh kA fA cA gA nk) (hTn : TNe kA fA cA gA) (hV : TV (I kA) (I fA) (I cA) nt) (hnt : nt ≤ nk) (hnk : nk ≤ 1000000) {nP nF : Nat} (hW : WFA (I 762) nP nF nt) {f r : Int32} (hd : 2 ≤ d) : Me mi_M_isRule d 0 0 [.ref 761, .int f, .int r] (I, R, L, sh, N) (some (.int (bI ((0 ≤ f.toInt ∧ f.toInt < (nF : Int)) ∧ 0 ≤ r.toInt ∧ r.toInt < (I 762 (174 + 84 * f.toInt.toNat + 4)).toInt)))) (I, R, L, sh, N) := by
  obtain ⟨hPc, hP24, hFc, hF12, hWF, hWP⟩ := id hW
  have h := c_M_isRule (I := I) (R := R) (L := L) (N := N) (nF := nF) (nR := fun F => (I 762 (174 + 84 * F + 4)).toInt.toNat) (f := f) (r := r) hS hR hFc hF12 (fun F hF => by obtain ⟨w0, w1, w2, w3, w4, w5⟩ := hWF F hF; exact ⟨eq_nI (by omega), by omega⟩) hd
  rw [bI_congr (q := (0 ≤ f.toInt ∧ f.toInt < (nF : Int)) ∧ 0 ≤ r.toInt ∧ r.toInt < (I 762 (174 + 84 * f.toInt.toNat + 4)).toInt) ?_] at h
  · exact h
  · constructor
    · rintro ⟨q1, q2⟩
      obtain ⟨w0, w1, w2, w3, w4, w5⟩ := hWF f.toInt.toNat (by omega)
      exact ⟨q1, by omega⟩
    · rintro ⟨q1, q2⟩
      obtain ⟨w0, w1, w2, w3, w4, w5⟩ := hWF f.toInt.toNat (by omega)
      exact ⟨q1, by omega⟩
/-- what an answer can be -/
theorem shV_rng (b : Int) (q1 q2 q3 : Int32) : 0 ≤ (shV b q1 q2 q3).toInt ∧ (shV b q1 q2 q3).toInt ≤ 3 := by
  unfold shV
  split
  · decide
  · split
    · decide
    · split <;> decide
theorem rng_mk {x : Int32 × Int32 × Int32} {m : Int} {v b c : Int32} (e : x = (v, b, c)) (h1 : 0 ≤ v.toInt ∧ v.toInt ≤ 3) (h2 : 1 ≤ b.toInt ∧ b.toInt ≤ 7) (h3 : b.toInt = 6 → ∃ r : Nat, (r : Int) < m ∧ c = nI r) : (0 ≤ x.1.toInt ∧ x.1.toInt ≤ 3) ∧ (1 ≤ x.2.1.toInt ∧ x.2.1.toInt ≤ 7) ∧ (x.2.1.toInt = 6 → ∃ r : Nat, (r : Int) < m ∧ x.2.2 = nI r) := by
  subst e; exact ⟨h1, h2, h3⟩
theorem wo1_rng {G : Nat → Int32} {nF nt F : Nat} {tb : Nat → Bool} {key : Int32} {p : Nat} {A : Nat → Int32} (hw : WFF G nF nt F) (hp : p < 24) : (0 ≤ (wo1 G tb key p A F).1.toInt ∧ (wo1 G tb key p A F).1.toInt ≤ 3) ∧ (1 ≤ (wo1 G tb key p A F).2.1.toInt ∧ (wo1 G tb key p A F).2.1.toInt ≤ 7) ∧ ((wo1 G tb key p A F).2.1.toInt = 6 → ∃ r : Nat, (r : Int) < (G (174 + 84 * F + 4)).toInt ∧ (wo1 G tb key p A F).2.2 = nI r) := by
  obtain ⟨x, hx⟩ : ∃ x, x = wo1 G tb key p A F := ⟨_, rfl⟩
  rw [← hx]
  obtain ⟨w0, w1, w2, w3, w4, w5, w6, w7, w8, w9, wN, wR, wK, wO⟩ := hw
  unfold wo1 at hx
  cases hob : oB G F (G (174 + 84 * F + 6)).toInt.toNat key with
  | some k =>
    rw [hob] at hx; dsimp only at hx
    obtain ⟨hk1, hk2, -⟩ := fst1_spec (show fst1 _ _ = some k from hob)
    have hz := wO k (by omega)
    exact rng_mk hx hz (by decide) (fun h => absurd h (by decide))
  | none =>
    rw [hob] at hx; dsimp only at hx
    by_cases h1 : (G (174 + 84 * F + 1)).toInt = 1
    · rw [if_pos h1] at hx; exact rng_mk hx (by decide) (by decide) (fun h => absurd h (by decide))
    · rw [if_neg h1] at hx
      cases hfd : fst1 (fun n => decide (A (ndF G F n) ≠ G (174 + 84 * F + (14 + 2 * n + 1)))) (G (174 + 84 * F + 5)).toInt.toNat with
      | some n => rw [hfd] at hx; dsimp only at hx; exact rng_mk hx (by decide) (by decide) (fun h => absurd h (by decide))
      | none =>
        rw [hfd] at hx; dsimp only at hx
        unfold wo2 at hx
        split at hx
        · exact rng_mk hx (by decide) (by decide) (fun h => absurd h (by decide))
        · split at hx
          · exact rng_mk hx (wK p hp) (by decide) (fun h => absurd h (by decide))
          · cases hfr : fst1 (fun r => tb (G (174 + 84 * F + 60 + 4 * r + 0)).toInt.toNat) (G (174 + 84 * F + 4)).toInt.toNat with
            | some r =>
              rw [hfr] at hx; dsimp only at hx
              obtain ⟨hr1, hr2, -⟩ := fst1_spec hfr
              obtain ⟨q1, q2, q3, q4⟩ := wR r (by omega)
              refine rng_mk hx ?_ (by decide) (fun _ => ⟨r, by omega, rfl⟩)
              by_cases h2 : 1000 ≤ (G (174 + 84 * F + 60 + 4 * r + 1)).toInt
              · rw [if_pos h2]
                obtain ⟨m, hm, hm2⟩ : ∃ m : Nat, G (174 + 84 * F + 60 + 4 * r + 1) = nI m ∧ (G (174 + 84 * F + 60 + 4 * r + 1)).toInt = (m : Int) := ⟨(G (174 + 84 * F + 60 + 4 * r + 1)).toInt.toNat, eq_nI (by omega), by omega⟩
                rw [hm, nI_sub_toInt (by omega) (by omega)]; omega
              · rw [if_neg h2]; exact shV_rng _ _ _ _
            | none => rw [hfr] at hx; dsimp only at hx; exact rng_mk hx w3 (by decide) (fun h => absurd h (by decide))
theorem PA_rng {I : Nat → Nat → Int32} {kA fA cA gA nP nF nt : Nat} (hW : WFA (I 762) nP nF nt) {rk : Nat → Nat} (hrk : RK (I 762) nF rk) {p F : Nat} (hp : p < nP) (hF : F < nF) : (0 ≤ (PA I kA fA cA gA p F).1.toInt ∧ (PA I kA fA cA gA p F).1.toInt ≤ 3) ∧ (1 ≤ (PA I kA fA cA gA p F).2.1.toInt ∧ (PA I kA fA cA gA p F).2.1.toInt ≤ 7) ∧ ((PA I kA fA cA gA p F).2.1.toInt = 6 → ∃ r : Nat, (r : Int) < (I 762 (174 + 84 * F + 4)).toInt ∧ (PA I kA fA cA gA p F).2.2 = nI r) := by
  obtain ⟨hPc, hP24, hFc, hF12, hWF, hWP⟩ := hW
  unfold PA
  rw [ans_eq hrk hF]
  exact wo1_rng (hWF F hF) (by omega)
theorem l_M_soMany {d : Nat} {I : Nat → Nat → Int32} {R : Nat → Nat → Option Nat} {L : Nat → Nat → Int64} {sh : Nat → Nat × Nat} {N : Nat} (hS : ShOK sh) (hR : RfOK R) {kA fA cA gA nk nt : Nat} (hT : TRf R sh kA fA cA gA nk) (hTn : TNe kA fA cA gA) (hV : TV (I kA) (I fA) (I cA) nt) (hnt : nt ≤ nk) (hnk : nk ≤ 1000000) {nP nF : Nat} (hW : WFA (I 762) nP nF nt) {t : Nat} (htn : t < nt) {P : Nat → Bool} (hP : ∀ p, P p = trt (I kA) (I fA) (I cA) (I gA) (I 762 (6 + 2 * p)) (I 762 (6 + 2 * p + 1)).toInt.toNat t) {Q : Option Value → HS → Prop} (hq : Q (some (.int (nI (cnt P nP)))) (I, R, L, sh, N)) (hd : nt + 3 ≤ d) : ∀ (n_ : Nat) (i : Nat), nP - i = n_ → (i ≤ nP) → Run mi_M_soMany d 0 0 4 [(0, .ref 761), (1, .int (nI t)), (2, .int (nI (cnt P i))), (3, .int (nI i))] [] (I, R, L, sh, N) Q := by
  intro n_
  induction n_ using Nat.strongRecOn with | ind n_ ih_ => ?_
  intro i hn_ v0_
  obtain ⟨hPc, hP24, hFc, hF12, hWF, hWP⟩ := id hW
  refine r_iload_n (pc2 := 5) d_M_soMany_4 rfl rfl ?_
  refine r_aload_n (x := some 761) (pc2 := 6) d_M_soMany_5 rfl rfl ?_
  refine q_getR (x := some 762) (pc2 := 9) d_M_soMany_6 rfl k_M_9 rfl (sh_761 hS) (rf_761_0 hR) ?_
  refine r_iconst (v := nI 0) (pc2 := 10) d_M_soMany_9 rfl (by decide) ?_
  refine q_iaload (q := 0) (x := nI nP) (pc2 := 11) d_M_soMany_10 rfl (sh_762 hS) (nI_toInt (by omega)) (by omega) hPc ?_
  refine q_icmp_ge (tgt := 37) (A := ((i : Nat) : Int)) (B := ((nP : Nat) : Int)) (pc2 := 14) d_M_soMany_11 rfl rfl (nI_toInt (by omega)) (nI_toInt (by omega)) (fun c1 => ?_) (fun c1 => ?_)
  · refine r_iload_n (pc2 := 38) d_M_soMany_37 rfl rfl ?_
    refine Run.ret (some (.int (nI (cnt P i)))) d_M_soMany_38 ⟨_, rfl⟩ ?_
    rw [show i = nP by omega]; exact hq
  · refine r_iload_n (pc2 := 15) d_M_soMany_14 rfl rfl ?_
    refine r_aload_n (x := some 761) (pc2 := 16) d_M_soMany_15 rfl rfl ?_
    refine r_iload_n (pc2 := 17) d_M_soMany_16 rfl rfl ?_
    refine r_iload_n (pc2 := 18) d_M_soMany_17 rfl rfl ?_
    refine q_callv (M2 := mi_M_isSo) (pc2 := 21) d_M_soMany_18 rfl k_M_100 cm_M_isSo cv_M_isSo (sh_761 hS) (by decide) rfl rfl rfl (Nat.le_of_ble_eq_true rfl) (c_M_isSoJ (I := I) (J := I) hS hR hT hV hnt hnk rfl rfl rfl rfl rfl (p := i) (t := t) (by omega) (hWP i (by omega)).1.1 (hWP i (by omega)).1.2 (by omega) (by omega)) (d2 := d - 1) (by omega) (Nat.le_of_eq (Nat.zero_add _)) (Nat.le_of_eq (Nat.zero_add _)) ?_
    refine q_bif_eq (tgt := 28) (pc2 := 24) d_M_soMany_21 rfl rfl (fun c2 => ?_) (fun c2 => ?_)
    · refine r_iconst (v := nI 0) (pc2 := 29) d_M_soMany_28 rfl (by decide) ?_
      refine q_iaddN (pc2 := 30) d_M_soMany_29 rfl ?_
      refine q_top (y := nI (cnt P (i + 1))) (by rw [cnt_s, if_neg (by rw [hP]; exact c2)]) ?_
      refine r_istore_n (pc2 := 31) d_M_soMany_30 rfl rfl (Nat.le_of_ble_eq_true rfl) ?_
      refine q_iinc (b := 1) (pc2 := 34) d_M_soMany_31 rfl rfl (by decide) (Nat.le_of_ble_eq_true rfl) ?_
      refine r_goto (tgt := 4) d_M_soMany_34 rfl ?_
      refine Run.sub (l2 := [(0, .ref 761), (1, .int (nI t)), (2, .int (nI (cnt P (i + 1)))), (3, .int (nI (i + 1)))]) ⟨rfl, rfl, rfl, rfl, trivial⟩ ?_
      exact ih_ (nP - (i + 1)) (by omega) (i + 1) rfl (by omega)
    · refine r_iconst (v := nI 1) (pc2 := 25) d_M_soMany_24 rfl (by decide) ?_
      refine r_goto (tgt := 29) d_M_soMany_25 rfl ?_
      refine q_iaddN (pc2 := 30) d_M_soMany_29 rfl ?_
      refine q_top (y := nI (cnt P (i + 1))) (by rw [cnt_s, if_pos (by rw [hP]; exact c2)]) ?_
      refine r_istore_n (pc2 := 31) d_M_soMany_30 rfl rfl (Nat.le_of_ble_eq_true rfl) ?_
      refine q_iinc (b := 1) (pc2 := 34) d_M_soMany_31 rfl rfl (by decide) (Nat.le_of_ble_eq_true rfl) ?_
      refine r_goto (tgt := 4) d_M_soMany_34 rfl ?_
      refine Run.sub (l2 := [(0, .ref 761), (1, .int (nI t)), (2, .int (nI (cnt P (i + 1)))), (3, .int (nI (i + 1)))]) ⟨rfl, rfl, rfl, rfl, trivial⟩ ?_
      exact ih_ (nP - (i + 1)) (by omega) (i + 1) rfl (by omega)
theorem l_M_so {d : Nat} {I : Nat → Nat → Int32} {R : Nat → Nat → Option Nat} {L : Nat → Nat → Int64} {sh : Nat → Nat × Nat} {N : Nat} (hS : ShOK sh) (hR : RfOK R) {kA fA cA gA nk nt : Nat} (hT : TRf R sh kA fA cA gA nk) (hTn : TNe kA fA cA gA) (hV : TV (I kA) (I fA) (I cA) nt) (hnt : nt ≤ nk) (hnk : nk ≤ 1000000) {nP nF : Nat} (hW : WFA (I 762) nP nF nt) {F r t : Nat} (hF : F < nF) (hr6 : r < 6) (ht : I 762 (174 + 84 * F + 60 + 4 * r + 0) = nI t) (htn : t < nt) {P : Nat → Bool} (hP : ∀ p, P p = trt (I kA) (I fA) (I cA) (I gA) (I 762 (6 + 2 * p)) (I 762 (6 + 2 * p + 1)).toInt.toNat t) {Q : Option Value → HS → Prop} (hq : Q (some (.int (bits P nP))) (I, R, L, sh, N)) (hd : nt + 3 ≤ d) : ∀ (n_ : Nat) (i : Nat), nP - i = n_ → (i ≤ nP) → Run mi_M_so d 0 0 21 [(0, .ref 761), (1, .int (nI F)), (2, .int (nI r)), (3, .int (bits P i)), (4, .int (nI i))] [] (I, R, L, sh, N) Q := by
  intro n_
  induction n_ using Nat.strongRecOn with | ind n_ ih_ => ?_
  intro i hn_ v0_
  obtain ⟨hPc, hP24, hFc, hF12, hWF, hWP⟩ := id hW
  refine r_iload (pc2 := 23) d_M_so_21 rfl rfl ?_
  refine r_aload_n (x := some 761) (pc2 := 24) d_M_so_23 rfl rfl ?_
  refine q_getR (x := some 762) (pc2 := 27) d_M_so_24 rfl k_M_9 rfl (sh_761 hS) (rf_761_0 hR) ?_
  refine r_iconst (v := nI 0) (pc2 := 28) d_M_so_27 rfl (by decide) ?_
  refine q_iaload (q := 0) (x := nI nP) (pc2 := 29) d_M_so_28 rfl (sh_762 hS) (nI_toInt (by omega)) (by omega) hPc ?_
  refine q_icmp_ge (tgt := 64) (A := ((i : Nat) : Int)) (B := ((nP : Nat) : Int)) (pc2 := 32) d_M_so_29 rfl rfl (nI_toInt (by omega)) (nI_toInt (by omega)) (fun c1 => ?_) (fun c1 => ?_)
  · refine r_iload_n (pc2 := 65) d_M_so_64 rfl rfl ?_
    refine Run.ret (some (.int (bits P i))) d_M_so_65 ⟨_, rfl⟩ ?_
    rw [show i = nP by omega]; exact hq
  · refine r_iload_n (pc2 := 33) d_M_so_32 rfl rfl ?_
    refine r_aload_n (x := some 761) (pc2 := 34) d_M_so_33 rfl rfl ?_
    refine r_aload_n (x := some 761) (pc2 := 35) d_M_so_34 rfl rfl ?_
    refine r_iload_n (pc2 := 36) d_M_so_35 rfl rfl ?_
    refine r_iload_n (pc2 := 37) d_M_so_36 rfl rfl ?_
    refine q_callv (M2 := mi_M_tree) (pc2 := 40) d_M_so_37 rfl k_M_185 cm_M_tree cv_M_tree (sh_761 hS) (by decide) rfl rfl rfl (Nat.le_of_ble_eq_true rfl) (c_M_tree (I := I) (F := F) (r := r) hS hR (by omega) (by omega) (by omega)) (d2 := d - 1) (by omega) (Nat.le_of_eq (Nat.zero_add _)) (Nat.le_of_eq (Nat.zero_add _)) ?_
    refine q_top (y := nI t) (ht) ?_
    refine r_iload (pc2 := 42) d_M_so_40 rfl rfl ?_
    refine q_callv (M2 := mi_M_isSo) (pc2 := 45) d_M_so_42 rfl k_M_100 cm_M_isSo cv_M_isSo (sh_761 hS) (by decide) rfl rfl rfl (Nat.le_of_ble_eq_true rfl) (c_M_isSoJ (I := I) (J := I) hS hR hT hV hnt hnk rfl rfl rfl rfl rfl (p := i) (t := t) (by omega) (hWP i (by omega)).1.1 (hWP i (by omega)).1.2 (by omega) (by omega)) (d2 := d - 1) (by omega) (Nat.le_of_eq (Nat.zero_add _)) (Nat.le_of_eq (Nat.zero_add _)) ?_
    refine q_bif_eq (tgt := 55) (pc2 := 48) d_M_so_45 rfl rfl (fun c2 => ?_) (fun c2 => ?_)
    · refine r_iconst (v := nI 0) (pc2 := 56) d_M_so_55 rfl (by decide) ?_
      refine r_ior (pc2 := 57) d_M_so_56 rfl ?_
      refine q_top (y := bits P (i + 1)) (by rw [or_0]; rw [bits_s, if_neg (by rw [hP]; exact c2)]) ?_
      refine r_istore_n (pc2 := 58) d_M_so_57 rfl rfl (Nat.le_of_ble_eq_true rfl) ?_
      refine q_iinc (b := 1) (pc2 := 61) d_M_so_58 rfl rfl (by decide) (Nat.le_of_ble_eq_true rfl) ?_
      refine r_goto (tgt := 21) d_M_so_61 rfl ?_
      refine Run.sub (l2 := [(0, .ref 761), (1, .int (nI F)), (2, .int (nI r)), (3, .int (bits P (i + 1))), (4, .int (nI (i + 1)))]) ⟨rfl, rfl, rfl, rfl, rfl, trivial⟩ ?_
      exact ih_ (nP - (i + 1)) (by omega) (i + 1) rfl (by omega)
    · refine r_iconst (v := nI 1) (pc2 := 49) d_M_so_48 rfl (by decide) ?_
      refine r_iload (pc2 := 51) d_M_so_49 rfl rfl ?_
      refine r_ishl (pc2 := 52) d_M_so_51 rfl ?_
      refine r_goto (tgt := 56) d_M_so_52 rfl ?_
      refine r_ior (pc2 := 57) d_M_so_56 rfl ?_
      refine q_top (y := bits P (i + 1)) (by rw [bits_s, if_pos (by rw [hP]; exact c2)]) ?_
      refine r_istore_n (pc2 := 58) d_M_so_57 rfl rfl (Nat.le_of_ble_eq_true rfl) ?_
      refine q_iinc (b := 1) (pc2 := 61) d_M_so_58 rfl rfl (by decide) (Nat.le_of_ble_eq_true rfl) ?_
      refine r_goto (tgt := 21) d_M_so_61 rfl ?_
      refine Run.sub (l2 := [(0, .ref 761), (1, .int (nI F)), (2, .int (nI r)), (3, .int (bits P (i + 1))), (4, .int (nI (i + 1)))]) ⟨rfl, rfl, rfl, rfl, rfl, trivial⟩ ?_
      exact ih_ (nP - (i + 1)) (by omega) (i + 1) rfl (by omega)
theorem c_M_soMany {d : Nat} {I : Nat → Nat → Int32} {R : Nat → Nat → Option Nat} {L : Nat → Nat → Int64} {sh : Nat → Nat × Nat} {N : Nat} (hS : ShOK sh) (hR : RfOK R) {kA fA cA gA nk nt : Nat} (hT : TRf R sh kA fA cA gA nk) (hTn : TNe kA fA cA gA) (hV : TV (I kA) (I fA) (I cA) nt) (hnt : nt ≤ nk) (hnk : nk ≤ 1000000) {nP nF : Nat} (hW : WFA (I 762) nP nF nt) {t : Nat} (htn : t < nt) (hd : nt + 3 ≤ d) : Me mi_M_soMany d 0 0 [.ref 761, .int (nI t)] (I, R, L, sh, N) (some (.int (nI (cnt (fun p => trt (I kA) (I fA) (I cA) (I gA) (I 762 (6 + 2 * p)) (I 762 (6 + 2 * p + 1)).toInt.toNat t) nP)))) (I, R, L, sh, N) := by
  refine Mt.of pn_M (Nat.le_of_ble_eq_true rfl) ?_
  show Run mi_M_soMany d 0 0 0 [(0, .ref 761), (1, .int (nI t))] [] (I, R, L, sh, N) _
  refine r_iconst (v := nI 0) (pc2 := 1) d_M_soMany_0 rfl (by decide) ?_
  refine r_istore_n (pc2 := 2) d_M_soMany_1 rfl rfl (Nat.le_of_ble_eq_true rfl) ?_
  refine r_iconst (v := nI 0) (pc2 := 3) d_M_soMany_2 rfl (by decide) ?_
  refine r_istore_n (pc2 := 4) d_M_soMany_3 rfl rfl (Nat.le_of_ble_eq_true rfl) ?_
  refine Run.sub (l2 := [(0, .ref 761), (1, .int (nI t)), (2, .int (nI 0)), (3, .int (nI 0))]) ⟨rfl, rfl, rfl, rfl, trivial⟩ ?_
  exact l_M_soMany hS hR hT hTn hV hnt hnk hW htn (P := fun p => trt (I kA) (I fA) (I cA) (I gA) (I 762 (6 + 2 * p)) (I 762 (6 + 2 * p + 1)).toInt.toNat t) (fun p => rfl) ⟨rfl, rfl⟩ hd _ 0 rfl (by omega)
theorem c_M_so {d : Nat} {I : Nat → Nat → Int32} {R : Nat → Nat → Option Nat} {L : Nat → Nat → Int64} {sh : Nat → Nat × Nat} {N : Nat} (hS : ShOK sh) (hR : RfOK R) {kA fA cA gA nk nt : Nat} (hT : TRf R sh kA fA cA gA nk) (hTn : TNe kA fA cA gA) (hV : TV (I kA) (I fA) (I cA) nt) (hnt : nt ≤ nk) (hnk : nk ≤ 1000000) {nP nF : Nat} (hW : WFA (I 762) nP nF nt) {rk : Nat → Nat} (hrk : RK (I 762) nF rk) {f : Int32} {s : Int32} (hd : nt + 40 ≤ d) : Mt mi_M_so d 0 0 [.ref 761, .int f, .int s] (I, R, L, sh, N) (RQ I R L sh N (o_so (fun p t => trt (I kA) (I fA) (I cA) (I gA) (I 762 (6 + 2 * p)) (I 762 (6 + 2 * p + 1)).toInt.toNat t) (I 762) nP nF f s)) := by
  obtain ⟨hPc, hP24, hFc, hF12, hWF, hWP⟩ := id hW
  refine Mt.of pn_M (Nat.le_of_ble_eq_true rfl) ?_
  show Run mi_M_so d 0 0 0 [(0, .ref 761), (1, .int f), (2, .int s)] [] (I, R, L, sh, N) _
  refine r_aload_n (x := some 761) (pc2 := 1) d_M_so_0 rfl rfl ?_
  refine r_iload_n (pc2 := 2) d_M_so_1 rfl rfl ?_
  refine r_iload_n (pc2 := 3) d_M_so_2 rfl rfl ?_
  refine q_callv (M2 := mi_M_isRule) (pc2 := 6) d_M_so_3 rfl k_M_223 cm_M_isRule cv_M_isRule (sh_761 hS) (by decide) rfl rfl rfl (Nat.le_of_ble_eq_true rfl) (c_M_isRuleW (f := f) (r := s) hS hR hT hTn hV hnt hnk hW (by omega)) (d2 := d - 1) (by omega) (Nat.le_of_eq (Nat.zero_add _)) (Nat.le_of_eq (Nat.zero_add _)) ?_
  refine q_bif_ne (tgt := 16) (pc2 := 9) d_M_so_6 rfl rfl (fun c1 => ?_) (fun c1 => ?_)
  · obtain ⟨F, hF, hFe, eF⟩ := nat_of c1.1
    subst hFe
    obtain ⟨r, hre, er⟩ : ∃ r : Nat, s = nI r ∧ (s).toInt = (r : Int) := ⟨(s).toInt.toNat, eq_nI (by have := c1.2; omega), by have := c1.2; omega⟩
    subst hre
    rw [eF, Int.toNat_natCast] at c1
    obtain ⟨w0, w1, w2, w3, w4, w5, w6, w7, w8, w9, wN, wR, wK, wO⟩ := hWF F hF
    obtain ⟨⟨r1, r2⟩, r3, r4, r5⟩ := wR r (by omega)
    obtain ⟨t, ht, ht2⟩ : ∃ t : Nat, I 762 (174 + 84 * F + 60 + 4 * r + 0) = nI t ∧ (I 762 (174 + 84 * F + 60 + 4 * r + 0)).toInt = (t : Int) := ⟨(I 762 (174 + 84 * F + 60 + 4 * r + 0)).toInt.toNat, eq_nI (by omega), by omega⟩
    rw [ht2] at r1 r2
    refine r_iconst (v := nI 0) (pc2 := 17) d_M_so_16 rfl (by decide) ?_
    refine r_istore_n (pc2 := 18) d_M_so_17 rfl rfl (Nat.le_of_ble_eq_true rfl) ?_
    refine r_iconst (v := nI 0) (pc2 := 19) d_M_so_18 rfl (by decide) ?_
    refine r_istore (pc2 := 21) d_M_so_19 rfl (Nat.le_of_ble_eq_true rfl) ?_
    refine Run.sub (l2 := [(0, .ref 761), (1, .int (nI F)), (2, .int (nI r)), (3, .int (nI 0)), (4, .int (nI 0))]) ⟨rfl, rfl, rfl, rfl, rfl, trivial⟩ ?_
    exact l_M_so hS hR hT hTn hV hnt hnk hW hF (by omega) ht (by omega) (P := fun p => trt (I kA) (I fA) (I cA) (I gA) (I 762 (6 + 2 * p)) (I 762 (6 + 2 * p + 1)).toInt.toNat t) (fun p => rfl) (RQ.val (by unfold o_so; rw [eF, er, Int.toNat_natCast, Int.toNat_natCast, if_pos (by omega), ht2, Int.toNat_natCast]) FrS.rf) (by omega) _ 0 rfl (by omega)
  · refine r_aload_n (x := some 761) (pc2 := 10) d_M_so_9 rfl rfl ?_
    refine r_bipush (v := (-32 : Int32)) (pc2 := 12) d_M_so_10 rfl (by decide) ?_
    refine q_callv (M2 := mi_M_refused) (pc2 := 15) d_M_so_12 rfl k_M_106 cm_M_refused cv_M_refused (sh_761 hS) (by decide) rfl rfl rfl (Nat.le_of_ble_eq_true rfl) (c_M_refused_0 (I := I) hS hR) (d2 := d - 1) (by omega) (Nat.le_of_eq (Nat.zero_add _)) (Nat.le_of_eq (Nat.zero_add _)) ?_
    obtain ⟨I2, hI2⟩ : ∃ x, x = u2 I 765 0 (I 765 0 + nI 1) := ⟨_, rfl⟩
    rw [← hI2]
    refine Run.ret (some (.int ((-32 : Int32)))) d_M_so_15 ⟨_, rfl⟩ ?_
    exact RQ.bad 0 (by unfold o_so; rw [if_neg (by omega)]) (by decide) FrS.rf hI2
abbrev okPart (G : Nat → Int32) (nF : Nat) (f s k q : Int32) : Prop := ((0 ≤ f.toInt ∧ f.toInt < (nF : Int)) ∧ 0 ≤ s.toInt ∧ s.toInt < (G (174 + 84 * f.toInt.toNat + 4)).toInt) ∧ (1 ≤ k.toInt ∧ k.toInt ≤ (G (174 + 84 * f.toInt.toNat + 0)).toInt) ∧ 0 ≤ q.toInt ∧ q.toInt ≤ 333
theorem c_M_isPart {d : Nat} {I : Nat → Nat → Int32} {R : Nat → Nat → Option Nat} {L : Nat → Nat → Int64} {sh : Nat → Nat × Nat} {N : Nat} (hS : ShOK sh) (hR : RfOK R) {kA fA cA gA nk nt : Nat} (hT : TRf R sh kA fA cA gA nk) (hTn : TNe kA fA cA gA) (hV : TV (I kA) (I fA) (I cA) nt) (hnt : nt ≤ nk) (hnk : nk ≤ 1000000) {nP nF : Nat} (hW : WFA (I 762) nP nF nt) {f s k q : Int32} (hd : 4 ≤ d) : Me mi_M_isPart d 0 0 [.ref 761, .int f, .int s, .int k, .int q] (I, R, L, sh, N) (some (.int (bI (okPart (I 762) nF f s k q)))) (I, R, L, sh, N) := by
  refine Mt.of pn_M (Nat.le_of_ble_eq_true rfl) ?_
  show Run mi_M_isPart d 0 0 0 [(0, .ref 761), (1, .int f), (2, .int s), (3, .int k), (4, .int q)] [] (I, R, L, sh, N) _
  obtain ⟨hPc, hP24, hFc, hF12, hWF, hWP⟩ := id hW
  refine r_aload_n (x := some 761) (pc2 := 1) d_M_isPart_0 rfl rfl ?_
  refine r_iload_n (pc2 := 2) d_M_isPart_1 rfl rfl ?_
  refine r_iload_n (pc2 := 3) d_M_isPart_2 rfl rfl ?_
  refine q_callv (M2 := mi_M_isRule) (pc2 := 6) d_M_isPart_3 rfl k_M_223 cm_M_isRule cv_M_isRule (sh_761 hS) (by decide) rfl rfl rfl (Nat.le_of_ble_eq_true rfl) (c_M_isRuleW (f := f) (r := s) hS hR hT hTn hV hnt hnk hW (by omega)) (d2 := d - 1) (by omega) (Nat.le_of_eq (Nat.zero_add _)) (Nat.le_of_eq (Nat.zero_add _)) ?_
  refine q_bif_eq (tgt := 42) (pc2 := 9) d_M_isPart_6 rfl rfl (fun c1 => ?_) (fun c1 => ?_)
  · refine r_iconst (v := nI 0) (pc2 := 43) d_M_isPart_42 rfl (by decide) ?_
    refine Run.ret (some (.int (nI 0))) d_M_isPart_43 ⟨_, rfl, by decide⟩ ?_
    exact ⟨by rw [bI_f (by unfold okPart; first | omega | (rw [eF, Int.toNat_natCast]; omega))]; rfl, rfl⟩
  · obtain ⟨F, hF, hFe, eF⟩ := nat_of c1.1
    subst hFe
    obtain ⟨r, hre, er⟩ : ∃ r : Nat, s = nI r ∧ (s).toInt = (r : Int) := ⟨(s).toInt.toNat, eq_nI (by have := c1.2; omega), by have := c1.2; omega⟩
    subst hre
    rw [eF, Int.toNat_natCast] at c1
    obtain ⟨w0, w1, w2, w3, w4, w5, w6, w7, w8, w9, wN, wR, wK, wO⟩ := hWF F hF
    obtain ⟨⟨r1, r2⟩, r3, r4, r5⟩ := wR r (by omega)
    refine r_iload_n (pc2 := 10) d_M_isPart_9 rfl rfl ?_
    refine r_i2l (pc2 := 11) d_M_isPart_10 rfl ?_
    refine r_lconst (v := (1 : Int64)) (pc2 := 12) d_M_isPart_11 rfl (by decide) ?_
    refine r_aload_n (x := some 761) (pc2 := 13) d_M_isPart_12 rfl rfl ?_
    refine r_iload_n (pc2 := 14) d_M_isPart_13 rfl rfl ?_
    refine r_iconst (v := nI 0) (pc2 := 15) d_M_isPart_14 rfl (by decide) ?_
    refine q_callv (M2 := mi_M_of) (pc2 := 18) d_M_isPart_15 rfl k_M_76 cm_M_of cv_M_of (sh_761 hS) (by decide) rfl rfl rfl (Nat.le_of_ble_eq_true rfl) (c_M_of (I := I) (F := F) (W := 0) hS hR (by omega)) (d2 := d - 1) (by omega) (Nat.le_of_eq (Nat.zero_add _)) (Nat.le_of_eq (Nat.zero_add _)) ?_
    refine r_i2l (pc2 := 19) d_M_isPart_18 rfl ?_
    refine q_calls (M2 := mi_M_in) (pc2 := 22) d_M_isPart_19 rfl k_M_68 cm_M_in cs_M_in rfl rfl (Nat.le_of_ble_eq_true rfl) (c_M_in (A := k.toInt) (B := (1 : Int)) (C := (I 762 (174 + 84 * F + 0)).toInt) (toInt64_toInt (rfl)) (by decide) (toInt64_toInt (rfl))) (d2 := d - 1) (by omega) (Nat.le_of_eq (Nat.zero_add _)) (Nat.le_of_eq (Nat.zero_add _)) ?_
    refine q_bif_eq (tgt := 42) (pc2 := 25) d_M_isPart_22 rfl rfl (fun c2 => ?_) (fun c2 => ?_)
    · refine r_iconst (v := nI 0) (pc2 := 43) d_M_isPart_42 rfl (by decide) ?_
      refine Run.ret (some (.int (nI 0))) d_M_isPart_43 ⟨_, rfl, by decide⟩ ?_
      exact ⟨by rw [bI_f (by unfold okPart; first | omega | (rw [eF, Int.toNat_natCast]; omega))]; rfl, rfl⟩
    · refine r_iload (pc2 := 27) d_M_isPart_25 rfl rfl ?_
      refine r_i2l (pc2 := 28) d_M_isPart_27 rfl ?_
      refine r_lconst (v := (0 : Int64)) (pc2 := 29) d_M_isPart_28 rfl (by decide) ?_
      refine r_ldc2 (pc2 := 32) d_M_isPart_29 rfl k_M_226 ?_
      refine q_calls (M2 := mi_M_in) (pc2 := 35) d_M_isPart_32 rfl k_M_68 cm_M_in cs_M_in rfl rfl (Nat.le_of_ble_eq_true rfl) (c_M_in (A := q.toInt) (B := (0 : Int)) (C := (333 : Int)) (toInt64_toInt (rfl)) (by decide) (by decide)) (d2 := d - 1) (by omega) (Nat.le_of_eq (Nat.zero_add _)) (Nat.le_of_eq (Nat.zero_add _)) ?_
      refine q_bif_eq (tgt := 42) (pc2 := 38) d_M_isPart_35 rfl rfl (fun c3 => ?_) (fun c3 => ?_)
      · refine r_iconst (v := nI 0) (pc2 := 43) d_M_isPart_42 rfl (by decide) ?_
        refine Run.ret (some (.int (nI 0))) d_M_isPart_43 ⟨_, rfl, by decide⟩ ?_
        exact ⟨by rw [bI_f (by unfold okPart; first | omega | (rw [eF, Int.toNat_natCast]; omega))]; rfl, rfl⟩
      · refine r_iconst (v := nI 1) (pc2 := 39) d_M_isPart_38 rfl (by decide) ?_
        refine r_goto (tgt := 43) d_M_isPart_39 rfl ?_
        refine Run.ret (some (.int (nI 1))) d_M_isPart_43 ⟨_, rfl, by decide⟩ ?_
        exact ⟨by rw [bI_t (by unfold okPart; rw [eF, Int.toNat_natCast]; omega)]; rfl, rfl⟩
