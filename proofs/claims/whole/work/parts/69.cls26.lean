/-! THE CLASS: needs -/
/-- what a feature needs itself, as bits -/
def dnS (G : Nat → Int32) (f : Nat) : Nat → Int32
  | 0 => nI 0
  | n + 1 => dnS G f n ||| (nI 1 <<< (nI (ndF G f n) &&& 31))
theorem dnS_bt {G : Nat → Int32} {f x : Nat} (hx : x < 32) : ∀ {n : Nat}, (∀ i, i < n → ndF G f i < 32) → (bt (dnS G f n) x = true ↔ ∃ i, i < n ∧ ndF G f i = x)
  | 0, _ => by
    show bt (nI 0) x = true ↔ _
    rw [show nI 0 = 0 from rfl, b_0]
    exact ⟨fun h => (by cases h), fun ⟨i, h, _⟩ => absurd h (by omega)⟩
  | n + 1, h => by
    show bt (dnS G f n ||| (nI 1 <<< (nI (ndF G f n) &&& 31))) x = true ↔ _
    rw [b_set (h n (by omega)) hx, Bool.or_eq_true, dnS_bt hx (fun i hi => h i (by omega)), decide_eq_true_eq]
    constructor
    · rintro (⟨i, h1, h2⟩ | q)
      · exact ⟨i, by omega, h2⟩
      · exact ⟨n, by omega, q.symm⟩
    · rintro ⟨i, h1, h2⟩
      by_cases q : i = n
      · subst q; exact Or.inr h2.symm
      · exact Or.inl ⟨i, by omega, h2⟩
theorem RK.nd {G : Nat → Int32} {nF o : Nat} {rk : Nat → Nat} (hr : RK G nF rk) (hF : nF ≤ 12) (ho : o < nF) : ∀ i, i < nNof G o → ndF G o i < 32 := fun i hi => by have := ((hr o ho).2 i hi).1; omega
theorem NRi.dn {G : Nat → Int32} {nF f : Nat} {rk : Nat → Nat} (hr : RK G nF rk) (hF : nF ≤ 12) (hf : f < nF) : NRi G nF f 1 (dnS G f (nNof G f)) := by
  refine ⟨fun x hx hb => ?_, fun x hx hb => ?_⟩
  · obtain ⟨i, h1, h2⟩ := (dnS_bt hx (RK.nd hr hF hf)).mp hb
    subst h2
    exact ⟨((hr f hf).2 i h1).1, RC.next hr hf (Or.inl rfl) h1⟩
  · obtain ⟨i, h1, h2⟩ := rch_s.mp hb
    rcases h2 with q | q
    · exact (dnS_bt hx (RK.nd hr hF hf)).mpr ⟨i, h1, q⟩
    · cases q
theorem NRo.stepN {G : Nat → Int32} {nF f o k : Nat} {had S : Int32} (hF : nF ≤ 12) (ho : o < nF) (h0 : NRi G nF f (k + 1) had) (h : NRo G nF f o had S) (hb : ¬ bt had o = true) (hlt : ∀ i, i < nNof G o → ndF G o i < 32) : NRo G nF f (o + 1) had (S ||| nI 0) := by
  rw [or_0]
  refine ⟨h.1, h.2.1, fun o2 ho2 hh i hi => ?_⟩
  by_cases q : o2 = o
  · subst q
    rcases hh with e | e
    · subst e
      exact h.2.1 _ (hlt i hi) (h0.2 _ (hlt i hi) (rch_s.mpr ⟨i, hi, Or.inl rfl⟩))
    · exact absurd e hb
  · exact h.2.2 o2 (by omega) hh i hi
theorem NRo.stepY {G : Nat → Int32} {nF f o k : Nat} {had S : Int32} {rk : Nat → Nat} (hr : RK G nF rk) (hF : nF ≤ 12) (hf : f < nF) (ho : o < nF) (h0 : NRi G nF f (k + 1) had) (h : NRo G nF f o had S) (hb : bt had o = true) : NRo G nF f (o + 1) had (S ||| dnS G o (nNof G o)) := by
  refine ⟨fun x hx hq => ?_, fun x hx hq => by rw [b_or, h.2.1 x hx hq]; rfl, fun o2 ho2 hh i hi => ?_⟩
  · rw [b_or, Bool.or_eq_true] at hq
    rcases hq with q | q
    · exact h.1 x hx q
    · obtain ⟨i, h1, h2⟩ := (dnS_bt hx (RK.nd hr hF ho)).mp q
      subst h2
      exact ⟨((hr o ho).2 i h1).1, RC.next hr hf (Or.inr (h0.1 o (by omega) hb).2) h1⟩
  · by_cases q : o2 = o
    · subst q
      have hl := RK.nd hr hF ho i hi
      rw [b_or, (dnS_bt hl (RK.nd hr hF ho)).mpr ⟨i, hi, rfl⟩]; exact Bool.or_true _
    · have hl := RK.nd hr hF (show o2 < nF by omega) i hi
      rw [b_or, h.2.2 o2 (by omega) hh i hi]; rfl
theorem l_De_directNeeds {d : Nat} {I : Nat → Nat → Int32} {R : Nat → Nat → Option Nat} {L : Nat → Nat → Int64} {sh : Nat → Nat × Nat} {N : Nat} (hS : ShOK sh) (hR : RfOK R) {tK tF tC tS : Nat → Int32} {nt : Nat} (hV : TV tK tF tC nt) (hV2 : TV2 tK tF tC tS nt) (hnt6 : nt ≤ 1000000) {G : Nat → Int32} {nP nF nS : Nat} (hW : WFA G nP nF nt) (hWT : WFT G nF nS) (hKW : WFK G nP nF) {rk : Nat → Nat} (hrk : RK G nF rk) (hD : DR tK tF tC tS I R sh nt 0 G nP nF nS) {F : Nat} (hF : F < nF) {Q : Option Value → HS → Prop} (hq : Q (some (.int (dnS G F (nNof G F)))) (I, R, L, sh, N)) : ∀ (n_ : Nat) (n : Nat), nNof G F - n = n_ → (n ≤ nNof G F) → Run mi_De_directNeeds d 0 0 12 [(0, .ref 1), (1, .int (nI F)), (2, .ref (fe 0 F)), (3, .int (dnS G F n)), (4, .int (nI n))] [] (I, R, L, sh, N) Q := by
  intro n_
  induction n_ using Nat.strongRecOn with | ind n_ ih_ => ?_
  intro n hn_ v0_
  obtain ⟨hPc, hP24, hFc, hF12, hWF, hWP⟩ := id hW
  obtain ⟨tpF, klF, skF, fbF, nRF, nNF, nOF, frF, toF, ⟨a0F, b0F, cc0F, dd0F⟩, ⟨a1F, b1F, cc1F, dd1F⟩, ⟨a2F, b2F, cc2F, dd2F⟩, ⟨a3F, b3F, cc3F, dd3F⟩, ⟨a4F, b4F, cc4F, dd4F⟩, ⟨a5F, b5F, cc5F, dd5F⟩, ⟨a6F, b6F, cc6F, dd6F⟩, ⟨a8F, b8F, cc8F, dd8F⟩, ⟨a9F, b9F, cc9F, dd9F⟩⟩ := wfn (hWF F (by omega))
  obtain ⟨-, -, -, -, -, -, -, w7F, -, -, wNF, wRF, wKF, wOF⟩ := hWF F (by omega)
  obtain ⟨⟨x0F, x1F, x2F, x3F, x4F, x5F, x6F, x7F, x8F⟩, xnF, xoF, xkF, xcF, xrF⟩ := hD.2.2.2.1 F (by omega)
  have hflF := fe_lt (e := 0) (by decide) (show F < 12 by omega)
  unfold dk at hflF
  have hnn : nNof G F = nNF := by unfold nNof; rw [b5F, Int.toNat_natCast]
  refine r_iload (pc2 := 14) d_De_directNeeds_12 rfl rfl ?_
  refine r_aload_n (x := some (fe 0 F)) (pc2 := 15) d_De_directNeeds_14 rfl rfl ?_
  refine q_getI (x := nI nNF) (pc2 := 18) d_De_directNeeds_15 rfl k_De_70 (by decide) (sh_fe0 hS (by omega) (by omega)) (x5F.trans a5F) ?_
  refine q_icmp_ge (tgt := 39) (A := ((n : Nat) : Int)) (B := ((nNF : Nat) : Int)) (pc2 := 21) d_De_directNeeds_18 rfl rfl (nI_toInt (by omega)) (nI_toInt (by omega)) (fun c1 => ?_) (fun c1 => ?_)
  · refine r_iload_n (pc2 := 40) d_De_directNeeds_39 rfl rfl ?_
    refine Run.ret (some (.int (dnS G F n))) d_De_directNeeds_40 ⟨_, rfl⟩ ?_
    rw [show nNof G F = n by omega] at hq; exact hq
  · obtain ⟨q1, q2⟩ := (hrk F hF).2 n (by rw [b5F, Int.toNat_natCast]; omega)
    have hnd : I (fe 0 F + 2) n = nI (ndF G F n) := ((xnF n (by omega)).1).trans (by unfold ndF; exact eq_nI (Int.toNat_of_nonneg (wNF n (by omega)).1.1).symm)
    refine r_iload_n (pc2 := 22) d_De_directNeeds_21 rfl rfl ?_
    refine r_iconst (v := nI 1) (pc2 := 23) d_De_directNeeds_22 rfl (by decide) ?_
    refine r_aload_n (x := some (fe 0 F)) (pc2 := 24) d_De_directNeeds_23 rfl rfl ?_
    refine q_getR (x := some (fe 0 F + 2)) (pc2 := 27) d_De_directNeeds_24 rfl k_De_73 rfl (sh_fe0 hS (by omega) (by omega)) (rf_fe_6 hR (show 0 < 3 by decide) (show F < 12 by omega)) ?_
    refine r_iload (pc2 := 29) d_De_directNeeds_27 rfl rfl ?_
    refine q_iaload (q := n) (x := nI (ndF G F n)) (pc2 := 30) d_De_directNeeds_29 rfl (sh_fe2 hS (show 0 < 3 by decide) (show F < 12 by omega)) (nI_toInt (by omega)) (by omega) hnd ?_
    refine r_ishl (pc2 := 31) d_De_directNeeds_30 rfl ?_
    refine r_ior (pc2 := 32) d_De_directNeeds_31 rfl ?_
    refine r_istore_n (pc2 := 33) d_De_directNeeds_32 rfl rfl (Nat.le_of_ble_eq_true rfl) ?_
    refine q_iinc (b := 1) (pc2 := 36) d_De_directNeeds_33 rfl rfl (by decide) (Nat.le_of_ble_eq_true rfl) ?_
    refine r_goto (tgt := 12) d_De_directNeeds_36 rfl ?_
    refine Run.sub (l2 := [(0, .ref 1), (1, .int (nI F)), (2, .ref (fe 0 F)), (3, .int ((dnS G F n) ||| ((nI 1) <<< ((nI (ndF G F n)) &&& 31)))), (4, .int (nI (n + 1)))]) ⟨rfl, rfl, rfl, rfl, rfl, trivial⟩ ?_
    exact ih_ (nNof G F - (n + 1)) (by omega) (n + 1) rfl (by omega)
theorem c_De_directNeeds {d : Nat} {I : Nat → Nat → Int32} {R : Nat → Nat → Option Nat} {L : Nat → Nat → Int64} {sh : Nat → Nat × Nat} {N : Nat} (hS : ShOK sh) (hR : RfOK R) {tK tF tC tS : Nat → Int32} {nt : Nat} (hV : TV tK tF tC nt) (hV2 : TV2 tK tF tC tS nt) (hnt6 : nt ≤ 1000000) {G : Nat → Int32} {nP nF nS : Nat} (hW : WFA G nP nF nt) (hWT : WFT G nF nS) (hKW : WFK G nP nF) {rk : Nat → Nat} (hrk : RK G nF rk) (hD : DR tK tF tC tS I R sh nt 0 G nP nF nS) {F : Nat} (hF : F < nF) : Me mi_De_directNeeds d 0 0 [.ref 1, .int (nI F)] (I, R, L, sh, N) (some (.int (dnS G F (nNof G F)))) (I, R, L, sh, N) := by
  obtain ⟨hPc, hP24, hFc, hF12, hWF, hWP⟩ := id hW
  refine Mt.of pn_De (Nat.le_of_ble_eq_true rfl) ?_
  show Run mi_De_directNeeds d 0 0 0 [(0, .ref 1), (1, .int (nI F))] [] (I, R, L, sh, N) _
  refine r_aload_n (x := some 1) (pc2 := 1) d_De_directNeeds_0 rfl rfl ?_
  refine q_getR (x := some 5) (pc2 := 4) d_De_directNeeds_1 rfl k_De_20 rfl (sh_1 hS) (rf_1_1 hR) ?_
  refine r_iload_n (pc2 := 5) d_De_directNeeds_4 rfl rfl ?_
  refine q_aaload (q := F) (x := some (fe 0 F)) (pc2 := 6) d_De_directNeeds_5 rfl (sh_5 hS) (by decide) (by decide) (nI_toInt (by omega)) (by omega) (rf_fe hR (show 0 < 3 by decide) (show F < 12 by omega)) ?_
  refine r_astore_n (x := some (fe 0 F)) (pc2 := 7) d_De_directNeeds_6 rfl rfl (Nat.le_of_ble_eq_true rfl) ?_
  refine r_iconst (v := nI 0) (pc2 := 8) d_De_directNeeds_7 rfl (by decide) ?_
  refine r_istore_n (pc2 := 9) d_De_directNeeds_8 rfl rfl (Nat.le_of_ble_eq_true rfl) ?_
  refine r_iconst (v := nI 0) (pc2 := 10) d_De_directNeeds_9 rfl (by decide) ?_
  refine r_istore (pc2 := 12) d_De_directNeeds_10 rfl (Nat.le_of_ble_eq_true rfl) ?_
  refine Run.sub (l2 := [(0, .ref 1), (1, .int (nI F)), (2, .ref (fe 0 F)), (3, .int (nI 0)), (4, .int (nI 0))]) ⟨rfl, rfl, rfl, rfl, rfl, trivial⟩ ?_
  exact l_De_directNeeds hS hR hV hV2 hnt6 hW hWT hKW hrk hD hF ⟨rfl, rfl⟩ _ 0 rfl (Nat.zero_le _)
theorem l_De_neededBy_20 {d : Nat} {I : Nat → Nat → Int32} {R : Nat → Nat → Option Nat} {L : Nat → Nat → Int64} {sh : Nat → Nat × Nat} {N : Nat} (hS : ShOK sh) (hR : RfOK R) {tK tF tC tS : Nat → Int32} {nt : Nat} (hV : TV tK tF tC nt) (hV2 : TV2 tK tF tC tS nt) (hnt6 : nt ≤ 1000000) {G : Nat → Int32} {nP nF nS : Nat} (hW : WFA G nP nF nt) (hWT : WFT G nF nS) (hKW : WFK G nP nF) {rk : Nat → Nat} (hrk : RK G nF rk) (hD : DR tK tF tC tS I R sh nt 0 G nP nF nS) {F k : Nat} (hF : F < nF) {had : Int32} (h0 : NRi G nF F (k + 1) had) (hd : 3 ≤ d) {Q : Option Value → HS → Prop} (hk : ∀ S, NRo G nF F nF had S → Run mi_De_neededBy d 0 0 59 [(0, .ref 1), (1, .int (nI F)), (2, .int had), (3, .int (nI k)), (4, .int S)] [] (I, R, L, sh, N) Q) : ∀ (n_ : Nat) (i : Nat) (S : Int32), nF - i = n_ → (NRo G nF F i had S) → (i ≤ nF) → Run mi_De_neededBy d 0 0 20 [(0, .ref 1), (1, .int (nI F)), (2, .int had), (3, .int (nI k)), (4, .int S), (5, .int (nI i))] [] (I, R, L, sh, N) Q := by
  intro n_
  induction n_ using Nat.strongRecOn with | ind n_ ih_ => ?_
  intro i S hn_ v0_ v1_
  obtain ⟨hPc, hP24, hFc, hF12, hWF, hWP⟩ := id hW
  refine r_iload (pc2 := 22) d_De_neededBy_20 rfl rfl ?_
  refine r_aload_n (x := some 1) (pc2 := 23) d_De_neededBy_22 rfl rfl ?_
  refine q_getI (x := nI nF) (pc2 := 26) d_De_neededBy_23 rfl k_De_24 (by decide) (sh_1 hS) hD.1.2.1 ?_
  refine q_icmp_ge (tgt := 59) (A := ((i : Nat) : Int)) (B := ((nF : Nat) : Int)) (pc2 := 29) d_De_neededBy_26 rfl rfl (nI_toInt (by omega)) (nI_toInt (by omega)) (fun c1 => ?_) (fun c1 => ?_)
  · refine Run.sub (l2 := [(0, .ref 1), (1, .int (nI F)), (2, .int had), (3, .int (nI k)), (4, .int S)]) ⟨rfl, rfl, rfl, rfl, rfl, trivial⟩ ?_
    rw [show i = nF by omega] at v0_; exact hk S v0_
  · refine r_iload (pc2 := 31) d_De_neededBy_29 rfl rfl ?_
    refine r_iload_n (pc2 := 32) d_De_neededBy_31 rfl rfl ?_
    refine r_iload (pc2 := 34) d_De_neededBy_32 rfl rfl ?_
    refine q_calls (M2 := mi_X_hasBit) (pc2 := 37) d_De_neededBy_34 rfl k_De_66 cm_X_hasBit cs_X_hasBit rfl rfl (Nat.le_of_ble_eq_true rfl) (c_X_hasBit (x := had) (i := i) (by omega)) (d2 := d - 1) (by omega) (Nat.le_of_eq (Nat.zero_add _)) (Nat.le_of_eq (Nat.zero_add _)) ?_
    refine q_bif_eq (tgt := 49) (pc2 := 40) d_De_neededBy_37 rfl rfl (fun c2 => ?_) (fun c2 => ?_)
    · refine r_iconst (v := nI 0) (pc2 := 50) d_De_neededBy_49 rfl (by decide) ?_
      refine r_ior (pc2 := 51) d_De_neededBy_50 rfl ?_
      refine r_istore (pc2 := 53) d_De_neededBy_51 rfl (Nat.le_of_ble_eq_true rfl) ?_
      refine q_iinc (b := 1) (pc2 := 56) d_De_neededBy_53 rfl rfl (by decide) (Nat.le_of_ble_eq_true rfl) ?_
      refine r_goto (tgt := 20) d_De_neededBy_56 rfl ?_
      refine Run.sub (l2 := [(0, .ref 1), (1, .int (nI F)), (2, .int had), (3, .int (nI k)), (4, .int (S ||| (nI 0))), (5, .int (nI (i + 1)))]) ⟨rfl, rfl, rfl, rfl, rfl, rfl, trivial⟩ ?_
      exact ih_ (nF - (i + 1)) (by omega) (i + 1) (S ||| (nI 0)) rfl (NRo.stepN hF12 (by omega) h0 v0_ c2 (RK.nd hrk hF12 (by omega))) (by omega)
    · refine r_aload_n (x := some 1) (pc2 := 41) d_De_neededBy_40 rfl rfl ?_
      refine r_iload (pc2 := 43) d_De_neededBy_41 rfl rfl ?_
      refine q_callv (M2 := mi_De_directNeeds) (pc2 := 46) d_De_neededBy_43 rfl k_De_62 cm_De_directNeeds cv_De_directNeeds (sh_1 hS) (by decide) rfl rfl rfl (Nat.le_of_ble_eq_true rfl) (c_De_directNeeds (F := i) hS hR hV hV2 hnt6 hW hWT hKW hrk hD (by omega)) (d2 := d - 1) (by omega) (Nat.le_of_eq (Nat.zero_add _)) (Nat.le_of_eq (Nat.zero_add _)) ?_
      refine r_goto (tgt := 50) d_De_neededBy_46 rfl ?_
      refine r_ior (pc2 := 51) d_De_neededBy_50 rfl ?_
      refine r_istore (pc2 := 53) d_De_neededBy_51 rfl (Nat.le_of_ble_eq_true rfl) ?_
      refine q_iinc (b := 1) (pc2 := 56) d_De_neededBy_53 rfl rfl (by decide) (Nat.le_of_ble_eq_true rfl) ?_
      refine r_goto (tgt := 20) d_De_neededBy_56 rfl ?_
      refine Run.sub (l2 := [(0, .ref 1), (1, .int (nI F)), (2, .int had), (3, .int (nI k)), (4, .int (S ||| (dnS G i (nNof G i)))), (5, .int (nI (i + 1)))]) ⟨rfl, rfl, rfl, rfl, rfl, rfl, trivial⟩ ?_
      exact ih_ (nF - (i + 1)) (by omega) (i + 1) (S ||| (dnS G i (nNof G i))) rfl (NRo.stepY hrk hF12 hF (by omega) h0 v0_ c2) (by omega)
theorem l_De_neededBy_8 {d : Nat} {I : Nat → Nat → Int32} {R : Nat → Nat → Option Nat} {L : Nat → Nat → Int64} {sh : Nat → Nat × Nat} {N : Nat} (hS : ShOK sh) (hR : RfOK R) {tK tF tC tS : Nat → Int32} {nt : Nat} (hV : TV tK tF tC nt) (hV2 : TV2 tK tF tC tS nt) (hnt6 : nt ≤ 1000000) {G : Nat → Int32} {nP nF nS : Nat} (hW : WFA G nP nF nt) (hWT : WFT G nF nS) (hKW : WFK G nP nF) {rk : Nat → Nat} (hrk : RK G nF rk) (hD : DR tK tF tC tS I R sh nt 0 G nP nF nS) {F : Nat} (hF : F < nF) {Q : Option Value → HS → Prop} (hd : 3 ≤ d) (hq : Q (some (.int (nds G nF F))) (I, R, L, sh, N)) : ∀ (n_ : Nat) (k : Nat) (S : Int32), 12 - k = n_ → (NRi G nF F (k + 1) S) → (k ≤ 12) → Run mi_De_neededBy d 0 0 8 [(0, .ref 1), (1, .int (nI F)), (2, .int S), (3, .int (nI k))] [] (I, R, L, sh, N) Q := by
  intro n_
  induction n_ using Nat.strongRecOn with | ind n_ ih_ => ?_
  intro k S hn_ v0_ v1_
  obtain ⟨hPc, hP24, hFc, hF12, hWF, hWP⟩ := id hW
  refine r_iload_n (pc2 := 9) d_De_neededBy_8 rfl rfl ?_
  refine r_bipush (v := nI 12) (pc2 := 11) d_De_neededBy_9 rfl (by decide) ?_
  refine q_icmp_ge (tgt := 77) (A := ((k : Nat) : Int)) (B := (12 : Int)) (pc2 := 14) d_De_neededBy_11 rfl rfl (nI_toInt (by omega)) (nI_toInt (by omega)) (fun c1 => ?_) (fun c1 => ?_)
  · refine r_iload_n (pc2 := 78) d_De_neededBy_77 rfl rfl ?_
    refine Run.ret (some (.int S)) d_De_neededBy_78 ⟨_, rfl⟩ ?_
    rw [show k = 12 by omega] at v0_; rw [NRi.fin hrk hF12 hF v0_]; exact hq
  · refine r_iload_n (pc2 := 15) d_De_neededBy_14 rfl rfl ?_
    refine r_istore (pc2 := 17) d_De_neededBy_15 rfl (Nat.le_of_ble_eq_true rfl) ?_
    refine r_iconst (v := nI 0) (pc2 := 18) d_De_neededBy_17 rfl (by decide) ?_
    refine r_istore (pc2 := 20) d_De_neededBy_18 rfl (Nat.le_of_ble_eq_true rfl) ?_
    refine Run.sub (l2 := [(0, .ref 1), (1, .int (nI F)), (2, .int S), (3, .int (nI k)), (4, .int S), (5, .int (nI 0))]) ⟨rfl, rfl, rfl, rfl, rfl, rfl, trivial⟩ ?_
    refine l_De_neededBy_20 hS hR hV hV2 hnt6 hW hWT hKW hrk hD hF (k := k) (had := S) v0_ (by omega) (hk := fun S2 hS2 => ?_) _ 0 S rfl (NRo.start v0_) (Nat.zero_le _)
    refine r_iload (pc2 := 61) d_De_neededBy_59 rfl rfl ?_
    refine r_iload_n (pc2 := 62) d_De_neededBy_61 rfl rfl ?_
    refine q_icmp_ne (tgt := 68) (A := S2.toInt) (B := S.toInt) (pc2 := 65) d_De_neededBy_62 rfl rfl (rfl) (rfl) (fun c2 => ?_) (fun c2 => ?_)
    · refine r_iload (pc2 := 70) d_De_neededBy_68 rfl rfl ?_
      refine r_istore_n (pc2 := 71) d_De_neededBy_70 rfl rfl (Nat.le_of_ble_eq_true rfl) ?_
      refine q_iinc (b := 1) (pc2 := 74) d_De_neededBy_71 rfl rfl (by decide) (Nat.le_of_ble_eq_true rfl) ?_
      refine r_goto (tgt := 8) d_De_neededBy_74 rfl ?_
      refine Run.sub (l2 := [(0, .ref 1), (1, .int (nI F)), (2, .int S2), (3, .int (nI (k + 1)))]) ⟨rfl, rfl, rfl, rfl, trivial⟩ ?_
      exact ih_ (12 - (k + 1)) (by omega) (k + 1) S2 rfl (NRo.more hrk hF12 hF v0_ hS2) (by omega)
    · have hse : S2 = S := Int32.toInt_inj.mp c2
      rw [hse] at hS2
      have hfin : S = nds G nF F := NRo.same hrk hF12 hF hS2
      rw [hfin]
      refine r_goto (tgt := 77) d_De_neededBy_65 rfl ?_
      refine r_iload_n (pc2 := 78) d_De_neededBy_77 rfl rfl ?_
      refine Run.ret (some (.int (nds G nF F))) d_De_neededBy_78 ⟨_, rfl⟩ ?_
      exact hq
theorem c_De_neededBy {d : Nat} {I : Nat → Nat → Int32} {R : Nat → Nat → Option Nat} {L : Nat → Nat → Int64} {sh : Nat → Nat × Nat} {N : Nat} (hS : ShOK sh) (hR : RfOK R) {tK tF tC tS : Nat → Int32} {nt : Nat} (hV : TV tK tF tC nt) (hV2 : TV2 tK tF tC tS nt) (hnt6 : nt ≤ 1000000) {G : Nat → Int32} {nP nF nS : Nat} (hW : WFA G nP nF nt) (hWT : WFT G nF nS) (hKW : WFK G nP nF) {rk : Nat → Nat} (hrk : RK G nF rk) (hD : DR tK tF tC tS I R sh nt 0 G nP nF nS) {F : Nat} (hF : F < nF) (hd : 3 ≤ d) : Me mi_De_neededBy d 0 0 [.ref 1, .int (nI F)] (I, R, L, sh, N) (some (.int (nds G nF F))) (I, R, L, sh, N) := by
  obtain ⟨hPc, hP24, hFc, hF12, hWF, hWP⟩ := id hW
  refine Mt.of pn_De (Nat.le_of_ble_eq_true rfl) ?_
  show Run mi_De_neededBy d 0 0 0 [(0, .ref 1), (1, .int (nI F))] [] (I, R, L, sh, N) _
  refine r_aload_n (x := some 1) (pc2 := 1) d_De_neededBy_0 rfl rfl ?_
  refine r_iload_n (pc2 := 2) d_De_neededBy_1 rfl rfl ?_
  refine q_callv (M2 := mi_De_directNeeds) (pc2 := 5) d_De_neededBy_2 rfl k_De_62 cm_De_directNeeds cv_De_directNeeds (sh_1 hS) (by decide) rfl rfl rfl (Nat.le_of_ble_eq_true rfl) (c_De_directNeeds (F := F) hS hR hV hV2 hnt6 hW hWT hKW hrk hD (by omega)) (d2 := d - 1) (by omega) (Nat.le_of_eq (Nat.zero_add _)) (Nat.le_of_eq (Nat.zero_add _)) ?_
  refine r_istore_n (pc2 := 6) d_De_neededBy_5 rfl rfl (Nat.le_of_ble_eq_true rfl) ?_
  refine r_iconst (v := nI 0) (pc2 := 7) d_De_neededBy_6 rfl (by decide) ?_
  refine r_istore_n (pc2 := 8) d_De_neededBy_7 rfl rfl (Nat.le_of_ble_eq_true rfl) ?_
  refine Run.sub (l2 := [(0, .ref 1), (1, .int (nI F)), (2, .int (dnS G F (nNof G F))), (3, .int (nI 0))]) ⟨rfl, rfl, rfl, rfl, trivial⟩ ?_
  exact l_De_neededBy_8 hS hR hV hV2 hnt6 hW hWT hKW hrk hD hF hd ⟨rfl, rfl⟩ _ 0 _ rfl (NRi.dn hrk hF12 hF) (Nat.zero_le _)
theorem c_X_needed {d : Nat} {I : Nat → Nat → Int32} {R : Nat → Nat → Option Nat} {L : Nat → Nat → Int64} {sh : Nat → Nat × Nat} {N : Nat} (hS : ShOK sh) (hR : RfOK R) {tK tF tC tS : Nat → Int32} {nt : Nat} (hV : TV tK tF tC nt) (hV2 : TV2 tK tF tC tS nt) (hnt6 : nt ≤ 1000000) {G : Nat → Int32} {nP nF nS : Nat} (hW : WFA G nP nF nt) (hWT : WFT G nF nS) (hKW : WFK G nP nF) {rk : Nat → Nat} (hrk : RK G nF rk) (hD : DR tK tF tC tS I R sh nt 0 G nP nF nS) {f : Int32} (hd : 80 ≤ d) : Mt mi_X_needed d 0 0 [.ref 0, .int f] (I, R, L, sh, N) (XP I R L sh N (o_needed G nF f) (fun K _ => FrX sh I K)) := by
  obtain ⟨hPc, hP24, hFc, hF12, hWF, hWP⟩ := id hW
  refine Mt.of pn_X (Nat.le_of_ble_eq_true rfl) ?_
  show Run mi_X_needed d 0 0 0 [(0, .ref 0), (1, .int f)] [] (I, R, L, sh, N) _
  refine r_aload_n (x := some 0) (pc2 := 1) d_X_needed_0 rfl rfl ?_
  refine r_iload_n (pc2 := 2) d_X_needed_1 rfl rfl ?_
  refine q_callv (M2 := mi_X_isFeature) (pc2 := 5) d_X_needed_2 rfl k_X_220 cm_X_isFeature cv_X_isFeature (sh_0 hS) (by decide) rfl rfl rfl (Nat.le_of_ble_eq_true rfl) (c_X_isFeature (f := f) hS hR hV hV2 hnt6 hW hWT hKW hrk hD) (d2 := d - 1) (by omega) (Nat.le_of_eq (Nat.zero_add _)) (Nat.le_of_eq (Nat.zero_add _)) ?_
  refine q_bif_eq (tgt := 19) (pc2 := 8) d_X_needed_5 rfl rfl (fun c1 => ?_) (fun c1 => ?_)
  · refine r_aload_n (x := some 0) (pc2 := 20) d_X_needed_19 rfl rfl ?_
    refine r_bipush (v := (-32 : Int32)) (pc2 := 22) d_X_needed_20 rfl (by decide) ?_
    refine q_callv (M2 := mi_X_refuse) (pc2 := 25) d_X_needed_22 rfl k_X_75 cm_X_refuse cv_X_refuse (sh_0 hS) (by decide) rfl rfl rfl (Nat.le_of_ble_eq_true rfl) (c_X_refuse_0 (J := I) hS hR) (d2 := d - 1) (by omega) (Nat.le_of_eq (Nat.zero_add _)) (Nat.le_of_eq (Nat.zero_add _)) ?_
    obtain ⟨I2, hI2⟩ : ∃ x, x = u2 I 744 0 (I 744 0 + nI 1) := ⟨_, rfl⟩
    rw [← hI2]
    refine Run.ret (some (.int ((-32 : Int32)))) d_X_needed_25 ⟨_, rfl⟩ ?_
    exact XP.bad hS 0 (by (unfold o_needed); (try dsimp only); (try simp only [Int.toNat_natCast]); (repeat (first | rw [if_pos (by omega)] | rw [if_neg (by omega)])); (try rfl); (all_goals first | rfl | (congr 2 <;> omega) | ((repeat' split) <;> first | rfl | (exfalso; omega) | (congr 2 <;> omega) | skip))) (by decide) FrXR.rf FrX.rf hI2
  · obtain ⟨fN, hfN, rfl, efN⟩ := nat_of c1
    obtain ⟨tpfN, klfN, skfN, fbfN, nRfN, nNfN, nOfN, frfN, tofN, ⟨a0fN, b0fN, cc0fN, dd0fN⟩, ⟨a1fN, b1fN, cc1fN, dd1fN⟩, ⟨a2fN, b2fN, cc2fN, dd2fN⟩, ⟨a3fN, b3fN, cc3fN, dd3fN⟩, ⟨a4fN, b4fN, cc4fN, dd4fN⟩, ⟨a5fN, b5fN, cc5fN, dd5fN⟩, ⟨a6fN, b6fN, cc6fN, dd6fN⟩, ⟨a8fN, b8fN, cc8fN, dd8fN⟩, ⟨a9fN, b9fN, cc9fN, dd9fN⟩⟩ := wfn (hWF fN (by omega))
    obtain ⟨-, -, -, -, -, -, -, w7fN, -, -, wNfN, wRfN, wKfN, wOfN⟩ := hWF fN (by omega)
    obtain ⟨⟨x0fN, x1fN, x2fN, x3fN, x4fN, x5fN, x6fN, x7fN, x8fN⟩, xnfN, xofN, xkfN, xcfN, xrfN⟩ := hD.2.2.2.1 fN (by omega)
    have hflfN := fe_lt (e := 0) (by decide) (show fN < 12 by omega)
    unfold dk at hflfN
    refine r_aload_n (x := some 0) (pc2 := 9) d_X_needed_8 rfl rfl ?_
    refine q_getR (x := some 1) (pc2 := 12) d_X_needed_9 rfl k_X_12 rfl (sh_0 hS) (rf_0_0 hR) ?_
    refine r_iload_n (pc2 := 13) d_X_needed_12 rfl rfl ?_
    refine q_callv (M2 := mi_De_neededBy) (pc2 := 16) d_X_needed_13 rfl k_X_274 cm_De_neededBy cv_De_neededBy (sh_1 hS) (by decide) rfl rfl rfl (Nat.le_of_ble_eq_true rfl) (c_De_neededBy (F := fN) hS hR hV hV2 hnt6 hW hWT hKW hrk hD (by omega) (by omega)) (d2 := d - 1) (by omega) (Nat.le_of_eq (Nat.zero_add _)) (Nat.le_of_eq (Nat.zero_add _)) ?_
    refine r_goto (tgt := 25) d_X_needed_16 rfl ?_
    refine Run.ret (some (.int (nds G nF fN))) d_X_needed_25 ⟨_, rfl⟩ ?_
    exact XP.val (by (try simp only [efN, b0fN, b1fN, b2fN, b3fN, b4fN, b5fN, b6fN, b8fN, b9fN, Int.toNat_natCast] at c1); (unfold o_needed); (try dsimp only); (try simp only [efN, b0fN, b1fN, b2fN, b3fN, b4fN, b5fN, b6fN, b8fN, b9fN, Int.toNat_natCast]); (repeat (first | rw [if_pos (by omega)] | rw [if_neg (by omega)])); (try rfl); (all_goals first | rfl | (simp only [a0fN, a1fN, a2fN, a3fN, a4fN, a5fN, a6fN, a8fN, a9fN]; done) | (congr 2 <;> omega) | ((repeat' split) <;> first | rfl | (simp only [a0fN, a1fN, a2fN, a3fN, a4fN, a5fN, a6fN, a8fN, a9fN]; done) | (exfalso; omega) | (congr 2 <;> omega) | skip))) FrXR.rf FrX.rf
