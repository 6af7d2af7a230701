/-! THE REFERENCE: days, and what would be -/
/-! answers by any row g -/
def AN (tr : Int32 → Nat → Nat → Bool) (G : Nat → Int32) (p : Nat) : Nat → Int32 × Int32 × Int32 := ans G (fun t => tr (G (6 + 2 * p)) (G (6 + 2 * p + 1)).toInt.toNat t) (G (6 + 2 * p)) p
abbrev TRE (I : Nat → Nat → Int32) (kA fA cA gA : Nat) : Int32 → Nat → Nat → Bool := fun key att t => trt (I kA) (I fA) (I cA) (I gA) key att t
theorem PA_AN {I : Nat → Nat → Int32} {kA fA cA gA p : Nat} : PA I kA fA cA gA p = AN (TRE I kA fA cA gA) (I 762) p := rfl
theorem setR_o {I : Nat → Nat → Int32} {G : Nat → Int32} {a : Nat} (h : a ≠ 762) : setR I 762 G a = I a := funext fun j => if_neg h
theorem FrS.rowG {I J : Nat → Nat → Int32} {G : Nat → Int32} (h : FrS (setR I 762 G) J) {a : Nat} (h0 : a ≠ 762) (h1 : a ≠ 761) (h2 : a ≠ 763) (h3 : a < 771 ∨ 776 < a) : J a = I a := (h.row h1 h2 h3).trans (setR_o h0)
theorem PA_G {I J : Nat → Nat → Int32} {G : Nat → Int32} {kA fA cA gA : Nat} (hTn : TNe kA fA cA gA) (h : FrS (setR I 762 G) J) (p : Nat) : PA J kA fA cA gA p = AN (TRE I kA fA cA gA) G p := by
  obtain ⟨hn1, hn2, hn3, hn4⟩ := hTn
  rw [PA_AN, h.row2]
  unfold TRE
  rw [h.rowG (by omega) (by omega) (by omega) (by omega), h.rowG (by omega) (by omega) (by omega) (by omega), h.rowG (by omega) (by omega) (by omega) (by omega), h.rowG (by omega) (by omega) (by omega) (by omega)]
theorem TV_G {I J : Nat → Nat → Int32} {G : Nat → Int32} {kA fA cA gA nt : Nat} (hTn : TNe kA fA cA gA) (h : FrS (setR I 762 G) J) (hV : TV (I kA) (I fA) (I cA) nt) : TV (J kA) (J fA) (J cA) nt := by
  obtain ⟨hn1, hn2, hn3, hn4⟩ := hTn
  rw [h.rowG (by omega) (by omega) (by omega) (by omega), h.rowG (by omega) (by omega) (by omega) (by omega), h.rowG (by omega) (by omega) (by omega) (by omega)]; exact hV
theorem FrS.setR2 {I J : Nat → Nat → Int32} {G G2 : Nat → Int32} (h : FrS (setR I 762 G) J) : FrS (setR I 762 G2) (setR J 762 G2) := by
  intro a j q
  have e1 := h a j q
  unfold setR at e1 ⊢
  by_cases e : a = 762
  · rw [if_pos e, if_pos e]
  · rw [if_neg e] at e1 ⊢; rw [if_neg e]; exact e1
theorem WFT_congr {G G' : Nat → Int32} {nF nS : Nat} (h : WFT G nF nS) (e : ∀ j, j = 2 ∨ (54 ≤ j ∧ j < 174) → G' j = G j) : WFT G' nF nS := by
  obtain ⟨h1, h2, h3⟩ := h
  refine ⟨by rw [e 2 (by omega)]; exact h1, h2, fun i hi => ?_⟩
  rw [e (54 + 5 * i) (by omega), e (54 + 5 * i + 1) (by omega), e (54 + 5 * i + 2) (by omega), e (54 + 5 * i + 3) (by omega), e (54 + 5 * i + 4) (by omega)]
  exact h3 i hi
theorem AN_rng {G : Nat → Int32} {tr : Int32 → Nat → Nat → Bool} {nP nF nt : Nat} (hW : WFA G nP nF nt) {rk : Nat → Nat} (hrk : RK G nF rk) {p F : Nat} (hp : p < nP) (hF : F < nF) : (0 ≤ (AN tr G p F).1.toInt ∧ (AN tr G p F).1.toInt ≤ 3) ∧ (1 ≤ (AN tr G p F).2.1.toInt ∧ (AN tr G p F).2.1.toInt ≤ 7) ∧ ((AN tr G p F).2.1.toInt = 6 → ∃ r : Nat, (r : Int) < (G (174 + 84 * F + 4)).toInt ∧ (AN tr G p F).2.2 = nI r) := by
  obtain ⟨hPc, hP24, hFc, hF12, hWF, hWP⟩ := hW
  unfold AN
  rw [ans_eq hrk hF]
  exact wo1_rng (hWF F hF) (by omega)
/-- a kept answer, a count: soundness stays -/
theorem WFF_count {G : Nat → Int32} {nF nt F k : Nat} {v : Int32} (h : WFF G nF nt F) (hk : k ≤ 3) : WFF (u1 G (174 + 84 * F + (10 + k)) v) nF nt F := by
  obtain ⟨w0, w1, w2, w3, w4, w5, w6, w7, w8, w9, wN, wR, wK, wO⟩ := h
  refine ⟨by rw [u1_o (by omega)]; exact w0, by rw [u1_o (by omega)]; exact w1, by rw [u1_o (by omega)]; exact w2, by rw [u1_o (by omega)]; exact w3, by rw [u1_o (by omega)]; exact w4, by rw [u1_o (by omega)]; exact w5, by rw [u1_o (by omega)]; exact w6, by rw [u1_o (by omega)]; exact w7, by rw [u1_o (by omega)]; exact w8, by rw [u1_o (by omega)]; exact w9, fun n hn => ?_, fun q hq => ?_, fun p2 hp2 => ?_, fun k2 hk2 => ?_⟩
  · rw [u1_o (by omega)] at hn
    rw [u1_o (by omega), u1_o (by omega)]; exact wN n hn
  · rw [u1_o (by omega)] at hq
    rw [u1_o (by omega), u1_o (by omega), u1_o (by omega), u1_o (by omega)]; exact wR q hq
  · rw [u1_o (by omega)]; exact wK p2 hp2
  · rw [u1_o (by omega)] at hk2
    rw [u1_o (by omega)]; exact wO k2 hk2
theorem WFF_kept {G : Nat → Int32} {nF nt F k : Nat} {v : Int32} (h : WFF G nF nt F) (hk : k < 24) (hv : 0 ≤ v.toInt ∧ v.toInt ≤ 3) : WFF (u1 G (174 + 84 * F + (36 + k)) v) nF nt F := by
  obtain ⟨w0, w1, w2, w3, w4, w5, w6, w7, w8, w9, wN, wR, wK, wO⟩ := h
  refine ⟨by rw [u1_o (by omega)]; exact w0, by rw [u1_o (by omega)]; exact w1, by rw [u1_o (by omega)]; exact w2, by rw [u1_o (by omega)]; exact w3, by rw [u1_o (by omega)]; exact w4, by rw [u1_o (by omega)]; exact w5, by rw [u1_o (by omega)]; exact w6, by rw [u1_o (by omega)]; exact w7, by rw [u1_o (by omega)]; exact w8, by rw [u1_o (by omega)]; exact w9, fun n hn => ?_, fun q hq => ?_, fun p2 hp2 => ?_, fun k2 hk2 => ?_⟩
  · rw [u1_o (by omega)] at hn
    rw [u1_o (by omega), u1_o (by omega)]; exact wN n hn
  · rw [u1_o (by omega)] at hq
    rw [u1_o (by omega), u1_o (by omega), u1_o (by omega), u1_o (by omega)]; exact wR q hq
  · by_cases e : p2 = k
    · subst e; rw [u1_i]; exact hv
    · rw [u1_o (by omega)]; exact wK p2 hp2
  · rw [u1_o (by omega)] at hk2
    rw [u1_o (by omega)]; exact wO k2 hk2
theorem g_ask_o {a : Int32 × Int32 × Int32} {G : Nat → Int32} {F p j : Nat} (ha : a.1.toInt ≤ 3) (hp : p < 24) (hj : j ≠ 4) (h : j < 174 + 84 * F + 10 ∨ (174 + 84 * F + 14 ≤ j ∧ j < 174 + 84 * F + 36) ∨ 174 + 84 * F + 60 ≤ j) : g_ask a G F p j = G j := by
  unfold g_ask
  split
  · rw [u1_o (by omega), u1_o (by omega), u1_o (by omega)]
  · rw [u1_o (by omega), u1_o (by omega)]
theorem g_ask_W {a : Int32 × Int32 × Int32} {G : Nat → Int32} {nP nF nt F p : Nat} (h : WFA G nP nF nt) (hF : F < nF) (hp : p < nP) (ha : 0 ≤ a.1.toInt ∧ a.1.toInt ≤ 3) : WFA (g_ask a G F p) nP nF nt := by
  have hP := h.2.1
  have h4 : ∀ {G' : Nat → Int32} {v : Int32}, WFA G' nP nF nt → WFA (u1 G' 4 v) nP nF nt := fun h => WFA_head h (fun j hj => u1_o (by omega))
  have h10 : ∀ {G' : Nat → Int32} {v : Int32}, WFA G' nP nF nt → WFA (u1 G' (174 + 84 * F + (10 + a.1.toInt.toNat)) v) nP nF nt := fun {G' v} h => WFA_one h hF (fun j hj => u1_o (by omega)) (WFF_count (h.2.2.2.2.1 F hF) (by omega))
  unfold g_ask
  split
  · exact WFA_one (h4 (h10 h)) hF (fun j hj => u1_o (by omega)) (WFF_kept ((h4 (h10 h)).2.2.2.2.1 F hF) (by omega) ha)
  · exact h4 (h10 h)
/-! draws -/
def lcg (x : Int32) : Int32 := x * nI 1103515245 + nI 12345
def dr (x : Int32) : Nat := x.toBitVec.toNat / 2 ^ 16
theorem dr_lt (x : Int32) : dr x < 2 ^ 16 := by
  unfold dr; have := x.toBitVec.isLt; omega
theorem dr_eq (x : Int32) : (x.toUInt32 >>> ((nI 16).toUInt32 &&& Int32.toUInt32 31)).toInt32 = nI (dr x) := by
  have e := pk_ushr x (nI 16) 16 rfl
  have e2 := pk_tn (n := x.toBitVec.toNat / 2 ^ 16) (by have := x.toBitVec.isLt; omega)
  exact Int32.toBitVec_inj.mp (BitVec.eq_of_toNat_eq (e.trans e2.symm))
/-- a day by draws: whether it is on, and the row g behind it (lc the next seed, dw what is drawn of it) -/
def day2 (lc : Int32 → Int32) (G : Nat → Int32) : Nat → Int32 := u1 (u1 G 5 (lc (G 5))) 5 (lc (lc (G 5)))
def day4 (lc : Int32 → Int32) (dw : Int32 → Nat) (G3 : Nat → Int32) : Nat → Int32 := u1 (u1 G3 5 (lc (G3 5))) 3 (G3 3 + nI (dw (lc (G3 5)) % 4))
def dayA (lc : Int32 → Int32) (dw : Int32 → Nat) (tr : Int32 → Nat → Nat → Bool) (nP nF : Nat) (G : Nat → Int32) : Int32 × Int32 × Int32 := AN tr (day2 lc G) (dw (lc (lc (G 5))) % nP) (dw (lc (G 5)) % nF)
def day3 (lc : Int32 → Int32) (dw : Int32 → Nat) (tr : Int32 → Nat → Nat → Bool) (nP nF : Nat) (G : Nat → Int32) : Nat → Int32 := day4 lc dw (g_ask (dayA lc dw tr nP nF G) (day2 lc G) (dw (lc (G 5)) % nF) (dw (lc (lc (G 5))) % nP))
def dayS (D : Nat → Int32) : Nat → Int32 := (stI (D 3) (D 2).toInt.toNat D).2
def dayG (lc : Int32 → Int32) (dw : Int32 → Nat) (tr : Int32 → Nat → Nat → Bool) (nP nF : Nat) (G : Nat → Int32) : Nat → Int32 := dayS (day3 lc dw tr nP nF G)
def daysG (lc : Int32 → Int32) (dw : Int32 → Nat) (tr : Int32 → Nat → Nat → Bool) (nP nF : Nat) : Nat → (Nat → Int32) → Nat × (Nat → Int32)
  | 0, G => (0, G)
  | n + 1, G => ((if (dayA lc dw tr nP nF G).1.toInt ≠ 0 then 1 else 0) + (daysG lc dw tr nP nF n (dayG lc dw tr nP nF G)).1, (daysG lc dw tr nP nF n (dayG lc dw tr nP nF G)).2)
theorem day3_ok {lc : Int32 → Int32} {dw : Int32 → Nat} {tr : Int32 → Nat → Nat → Bool} {nP nF nt nS : Nat} {rk : Nat → Nat} {G : Nat → Int32} (h : WFA G nP nF nt) (hr : RK G nF rk) (hT : WFT G nF nS) (hP : 0 < nP) (hF : 0 < nF) : WFA (day2 lc G) nP nF nt ∧ RK (day2 lc G) nF rk ∧ WFA (day3 lc dw tr nP nF G) nP nF nt ∧ RK (day3 lc dw tr nP nF G) nF rk ∧ WFT (day3 lc dw tr nP nF G) nF nS := by
  have hp := Nat.mod_lt (dw (lc (lc (G 5)))) hP
  have hf := Nat.mod_lt (dw (lc (G 5))) hF
  have hP24 := h.2.1
  have h2 : WFA (day2 lc G) nP nF nt := WFA_head h (fun j hj => by unfold day2; rw [u1_o (by omega), u1_o (by omega)])
  have hr2 : RK (day2 lc G) nF rk := RK_congr h (fun F hF w hw => by unfold day2; rw [u1_o (by omega), u1_o (by omega)]) hr
  have ha := AN_rng (tr := tr) h2 hr2 hp hf
  have h3 := g_ask_W (a := dayA lc dw tr nP nF G) h2 hf hp ha.1
  have ho : ∀ j, j ≠ 4 → (j < 174 + 84 * (dw (lc (G 5)) % nF) + 10 ∨ (174 + 84 * (dw (lc (G 5)) % nF) + 14 ≤ j ∧ j < 174 + 84 * (dw (lc (G 5)) % nF) + 36) ∨ 174 + 84 * (dw (lc (G 5)) % nF) + 60 ≤ j) → g_ask (dayA lc dw tr nP nF G) (day2 lc G) (dw (lc (G 5)) % nF) (dw (lc (lc (G 5))) % nP) j = day2 lc G j := fun j h1 h2 => g_ask_o ha.1.2 (by omega) h1 h2
  have h4 : WFA (day3 lc dw tr nP nF G) nP nF nt := WFA_head h3 (fun j hj => by unfold day3 day4; rw [u1_o (by omega), u1_o (by omega)])
  refine ⟨h2, hr2, h4, RK_congr h2 (fun F hF w hw => ?_) hr2, WFT_congr hT (fun j hj => ?_)⟩
  · unfold day3 day4
    rw [u1_o (by omega), u1_o (by omega)]
    by_cases e : F = dw (lc (G 5)) % nF
    · exact ho _ (by omega) (by omega)
    · exact ho _ (by omega) (by omega)
  · unfold day3 day4
    rw [u1_o (by omega), u1_o (by omega), ho j (by omega) (by omega)]
    unfold day2
    rw [u1_o (by omega), u1_o (by omega)]
theorem c_M_freshG {d : Nat} {I : Nat → Nat → Int32} {R : Nat → Nat → Option Nat} {L : Nat → Nat → Int64} {sh : Nat → Nat × Nat} {N : Nat} (hS : ShOK sh) (hR : RfOK R) {kA fA cA gA nk nt : Nat} (hT : TRf R sh kA fA cA gA nk) (hTn : TNe kA fA cA gA) (hV : TV (I kA) (I fA) (I cA) nt) (hnt : nt ≤ nk) (hnk : nk ≤ 1000000) {nP nF : Nat} {G : Nat → Int32} (hW : WFA G nP nF nt) {rk : Nat → Nat} (hrk : RK G nF rk) {p : Nat} (hp : p < nP) {F : Nat} (hF : F < nF) {J : Nat → Nat → Int32} (hJ : FrS (setR I 762 G) J) (hd : nt + 30 ≤ d) : Mt mi_M_fresh d 0 0 [.ref 761, .int (nI F), .int (nI p)] (J, R, L, sh, N) (fun r h2 => ∃ K, h2 = (K, R, L, sh, N) ∧ r = some (.int (AN (TRE I kA fA cA gA) G p F).1) ∧ FrA J K ∧ K 772 F = (AN (TRE I kA fA cA gA) G p F).1 ∧ K 773 F = (AN (TRE I kA fA cA gA) G p F).2.1 ∧ K 774 F = (AN (TRE I kA fA cA gA) G p F).2.2) := by
  refine Mt.imp (fun r x hq => ?_) (c_M_fresh (I := J) hS hR hT hTn (TV_G hTn hJ hV) hnt hnk (by rw [hJ.row2]; exact hW) hp (by rw [hJ.row2]; exact hrk) hF hd)
  rw [PA_G hTn hJ p] at hq
  obtain ⟨K, h1, h2, h3, h4, h5, h6, h7, h8⟩ := hq
  exact ⟨K, h1, h2, h3, h5, h6, h7⟩
theorem c_M_askTrulyG {d : Nat} {I : Nat → Nat → Int32} {R : Nat → Nat → Option Nat} {L : Nat → Nat → Int64} {sh : Nat → Nat × Nat} {N : Nat} (hS : ShOK sh) (hR : RfOK R) {kA fA cA gA nk nt : Nat} (hT : TRf R sh kA fA cA gA nk) (hTn : TNe kA fA cA gA) (hV : TV (I kA) (I fA) (I cA) nt) (hnt : nt ≤ nk) (hnk : nk ≤ 1000000) {nP nF : Nat} {G : Nat → Int32} (hW : WFA G nP nF nt) {rk : Nat → Nat} (hrk : RK G nF rk) {p : Nat} (hp : p < nP) {F : Nat} (hF : F < nF) {J : Nat → Nat → Int32} (hJ : FrS (setR I 762 G) J) (hd : nt + 35 ≤ d) : Mt mi_M_askTruly d 0 0 [.ref 761, .int (nI F), .int (nI p)] (J, R, L, sh, N) (fun r h2 => ∃ K, h2 = (K, R, L, sh, N) ∧ r = some (.int (AN (TRE I kA fA cA gA) G p F).1) ∧ FrS (setR I 762 (g_ask (AN (TRE I kA fA cA gA) G p F) G F p)) K) := by
  refine Mt.imp (fun r x hq => ?_) (c_M_askTruly (I := J) hS hR hT hTn (TV_G hTn hJ hV) hnt hnk (by rw [hJ.row2]; exact hW) (by rw [hJ.row2]; exact hrk) hp hF hd)
  rw [PA_G hTn hJ p, hJ.row2] at hq
  obtain ⟨K, h1, h2, h3⟩ := hq
  exact ⟨K, h1, h2, hJ.setR_tr h3⟩
def o_pass (G : Nat → Int32) (nS : Nat) (n : Int32) : Out := if 0 ≤ n.toInt ∧ n.toInt ≤ 999 then .inl (nI (stI (G 3 + n) nS (u1 G 3 (G 3 + n))).1) else .inr 0
def g_pass (G : Nat → Int32) (nS : Nat) (n : Int32) : Nat → Int32 := if 0 ≤ n.toInt ∧ n.toInt ≤ 999 then (stI (G 3 + n) nS (u1 G 3 (G 3 + n))).2 else G
def o_later (tr : Int32 → Nat → Nat → Bool) (G : Nat → Int32) (nP nF nS : Nat) (f key t : Int32) : Out := match pB G nP key with
  | none => .inr 0
  | some p => if (0 ≤ f.toInt ∧ f.toInt < (nF : Int)) ∧ (G 3).toInt ≤ t.toInt ∧ t.toInt ≤ (G 3).toInt + 9999 then .inl (AN tr (stI t nS G).2 p f.toInt.toNat).1 else .inr 0
def o_days (tr : Int32 → Nat → Nat → Bool) (G : Nat → Int32) (nP nF : Nat) (n : Int32) : Out := if 1 ≤ n.toInt ∧ n.toInt ≤ 60 then (if (nF : Int) = 0 ∨ (nP : Int) = 0 then .inr 3 else .inl (nI (daysG lcg dr tr nP nF n.toInt.toNat G).1)) else .inr 0
def g_days (tr : Int32 → Nat → Nat → Bool) (G : Nat → Int32) (nP nF : Nat) (n : Int32) : Nat → Int32 := if 1 ≤ n.toInt ∧ n.toInt ≤ 60 then (if (nF : Int) = 0 ∨ (nP : Int) = 0 then G else (daysG lcg dr tr nP nF n.toInt.toNat G).2) else G
theorem dayS_ok {nP nF nt nS : Nat} {rk : Nat → Nat} {D : Nat → Int32} (h3 : WFA D nP nF nt) (h4 : RK D nF rk) (h5 : WFT D nF nS) : WFA (dayS D) nP nF nt ∧ RK (dayS D) nF rk ∧ WFT (dayS D) nF (nS - (stI (D 3) nS D).1) ∧ dayS D = (stI (D 3) nS D).2 := by
  have e : (D 2).toInt.toNat = nS := by rw [h5.1, nI_toInt (by have := h5.2.1; omega), Int.toNat_natCast]
  unfold dayS
  rw [e]
  obtain ⟨q1, q2, q3, q4, q5⟩ := stI_all (t := D 3) nS D h3 h5
  exact ⟨q1, stI_K h3 h5 h4, q2, rfl⟩
theorem day_ok {lc : Int32 → Int32} {dw : Int32 → Nat} {tr : Int32 → Nat → Nat → Bool} {nP nF nt nS : Nat} {rk : Nat → Nat} {G : Nat → Int32} (h : WFA G nP nF nt) (hr : RK G nF rk) (hT : WFT G nF nS) (hP : 0 < nP) (hF : 0 < nF) : WFA (dayG lc dw tr nP nF G) nP nF nt ∧ RK (dayG lc dw tr nP nF G) nF rk ∧ WFT (dayG lc dw tr nP nF G) nF (nS - (stI (day3 lc dw tr nP nF G 3) nS (day3 lc dw tr nP nF G)).1) := by
  obtain ⟨h1, h2, h3, h4, h5⟩ := day3_ok (lc := lc) (dw := dw) (tr := tr) h hr hT hP hF
  have h6 := dayS_ok h3 h4 h5
  exact ⟨h6.1, h6.2.1, h6.2.2.1⟩
theorem c_M_pass {d : Nat} {I : Nat → Nat → Int32} {R : Nat → Nat → Option Nat} {L : Nat → Nat → Int64} {sh : Nat → Nat × Nat} {N : Nat} (hS : ShOK sh) (hR : RfOK R) {kA fA cA gA nk nt : Nat} (hT : TRf R sh kA fA cA gA nk) (hTn : TNe kA fA cA gA) (hV : TV (I kA) (I fA) (I cA) nt) (hnt : nt ≤ nk) (hnk : nk ≤ 1000000) {nP nF : Nat} (hW : WFA (I 762) nP nF nt) {rk : Nat → Nat} (hrk : RK (I 762) nF rk) {n : Int32} {nS : Nat} (hTt : WFT (I 762) nF nS) (hd : nt + 60 ≤ d) : Mt mi_M_pass d 0 0 [.ref 761, .int n] (I, R, L, sh, N) (RQW I R L sh N (o_pass (I 762) nS n) (g_pass (I 762) nS n)) := by
  obtain ⟨hPc, hP24, hFc, hF12, hWF, hWP⟩ := id hW
  obtain ⟨hn1, hn2, hn3, hn4⟩ := id hTn
  refine Mt.of pn_M (Nat.le_of_ble_eq_true rfl) ?_
  show Run mi_M_pass d 0 0 0 [(0, .ref 761), (1, .int n)] [] (I, R, L, sh, N) _
  refine r_iload_n (pc2 := 1) d_M_pass_0 rfl rfl ?_
  refine r_i2l (pc2 := 2) d_M_pass_1 rfl ?_
  refine r_lconst (v := (0 : Int64)) (pc2 := 3) d_M_pass_2 rfl (by decide) ?_
  refine r_ldc2 (pc2 := 6) d_M_pass_3 rfl k_M_240 ?_
  refine q_calls (M2 := mi_M_in) (pc2 := 9) d_M_pass_6 rfl k_M_68 cm_M_in cs_M_in rfl rfl (Nat.le_of_ble_eq_true rfl) (c_M_in (A := n.toInt) (B := (0 : Int)) (C := (999 : Int)) (toInt64_toInt (rfl)) (by decide) (by decide)) (d2 := d - 1) (by omega) (Nat.le_of_eq (Nat.zero_add _)) (Nat.le_of_eq (Nat.zero_add _)) ?_
  refine q_bif_ne (tgt := 19) (pc2 := 12) d_M_pass_9 rfl rfl (fun c1 => ?_) (fun c1 => ?_)
  · obtain ⟨nN, hnN, gnN, rfl, enN⟩ := nat_of' (show (0 : Int) ≤ (0 : Int) by decide) c1
    refine r_aload_n (x := some 761) (pc2 := 20) d_M_pass_19 rfl rfl ?_
    refine q_getR (x := some 762) (pc2 := 23) d_M_pass_20 rfl k_M_9 rfl (sh_761 hS) (rf_761_0 hR) ?_
    refine r_iconst (v := nI 3) (pc2 := 24) d_M_pass_23 rfl (by decide) ?_
    refine r_dup2 (pc2 := 25) d_M_pass_24 rfl rfl rfl ?_
    refine q_iaload (q := 3) (x := I 762 3) (pc2 := 26) d_M_pass_25 rfl (sh_762 hS) (nI_toInt (by omega)) (by omega) rfl ?_
    refine r_iload_n (pc2 := 27) d_M_pass_26 rfl rfl ?_
    refine r_iadd (pc2 := 28) d_M_pass_27 rfl ?_
    refine q_iastore (q := 3) (pc2 := 29) d_M_pass_28 rfl (sh_762 hS) (nI_toInt (by omega)) (by omega) (fun I2 hI2 => ?_)
    have hW2 : WFA (u1 (I 762) 3 (I 762 3 + (nI nN))) nP nF nt := WFA_head hW (fun j hj => u1_o (by omega))
    have hT2 : WFT (u1 (I 762) 3 (I 762 3 + (nI nN))) nF nS := WFT_congr hTt (fun j hj => u1_o (by omega))
    refine r_aload_n (x := some 761) (pc2 := 30) d_M_pass_29 rfl rfl ?_
    refine r_aload_n (x := some 761) (pc2 := 31) d_M_pass_30 rfl rfl ?_
    refine q_getR (x := some 762) (pc2 := 34) d_M_pass_31 rfl k_M_9 rfl (sh_761 hS) (rf_761_0 hR) ?_
    refine r_iconst (v := nI 3) (pc2 := 35) d_M_pass_34 rfl (by decide) ?_
    refine q_iaload (q := 3) (x := (I 762 3) + (nI nN)) (pc2 := 36) d_M_pass_35 rfl (sh_762 hS) (nI_toInt (by omega)) (by omega) (rd_eq hI2) ?_
    have hr4 : I2 762 = (u1 (I 762) (3) ((I 762 3) + (nI nN))) := (setR_put FrS.rf.set hI2).row2
    refine q_callv (M2 := mi_M_stepsTill) (pc2 := 39) d_M_pass_36 rfl k_M_246 cm_M_stepsTill cv_M_stepsTill (sh_761 hS) (by decide) rfl rfl rfl (Nat.le_of_ble_eq_true rfl) (c_M_stepsTill (I := I2) hS hR (nS := nS) (t := (I 762 3) + (nI nN)) (by rw [hr4]; exact hW2) (by rw [hr4]; exact hT2) (by omega)) (d2 := d - 1) (by omega) (Nat.le_of_eq (Nat.zero_add _)) (Nat.le_of_eq (Nat.zero_add _)) ?_
    obtain ⟨K3, hK3⟩ : ∃ x, x = setR I2 762 (stI ((I 762 3) + (nI nN)) nS (I2 762)).2 := ⟨_, rfl⟩
    rw [← hK3]
    refine q_top (y := nI (stI ((I 762 3) + (nI nN)) nS (u1 (I 762) (3) ((I 762 3) + (nI nN)))).1) (by rw [hr4]) ?_
    have fK3 : FrS (setR I 762 (stI ((I 762 3) + (nI nN)) nS (u1 (I 762) (3) ((I 762 3) + (nI nN)))).2) K3 := by rw [hK3, hr4]; exact (setR_put FrS.rf.set hI2).setR2
    have hGK3 := fK3.row2
    refine Run.ret (some (.int (nI ((stI ((I 762 3) + (nI nN)) nS (u1 (I 762) (3) ((I 762 3) + (nI nN)))).1)))) d_M_pass_39 ⟨_, rfl⟩ ?_
    exact RQW.val (by (try simp only [enN, Int.toNat_natCast] at c1); (unfold o_pass); (try dsimp only); (try simp only [enN, Int.toNat_natCast]); (repeat (first | rw [if_pos (by omega)] | rw [if_neg (by omega)])); (try rfl); (all_goals first | rfl | (congr 2; omega) | ((repeat' split) <;> first | rfl | (exfalso; omega) | (congr 2; omega) | skip))) (by (try simp only [enN, Int.toNat_natCast] at c1); (unfold g_pass); (try dsimp only); (try simp only [enN, Int.toNat_natCast]); (repeat (first | rw [if_pos (by omega)] | rw [if_neg (by omega)])); exact fK3)
  · refine r_aload_n (x := some 761) (pc2 := 13) d_M_pass_12 rfl rfl ?_
    refine r_bipush (v := (-32 : Int32)) (pc2 := 15) d_M_pass_13 rfl (by decide) ?_
    refine q_callv (M2 := mi_M_refused) (pc2 := 18) d_M_pass_15 rfl k_M_106 cm_M_refused cv_M_refused (sh_761 hS) (by decide) rfl rfl rfl (Nat.le_of_ble_eq_true rfl) (c_M_refused_0 (I := I) hS hR) (d2 := d - 1) (by omega) (Nat.le_of_eq (Nat.zero_add _)) (Nat.le_of_eq (Nat.zero_add _)) ?_
    obtain ⟨I5, hI5⟩ : ∃ x, x = u2 I 765 0 (I 765 0 + nI 1) := ⟨_, rfl⟩
    rw [← hI5]
    refine Run.ret (some (.int ((-32 : Int32)))) d_M_pass_18 ⟨_, rfl⟩ ?_
    exact RQW.bad 0 (by (unfold o_pass); (try dsimp only); (try simp only [Int.toNat_natCast]); (repeat (first | rw [if_pos (by omega)] | rw [if_neg (by omega)])); (try rfl); (all_goals first | rfl | (congr 2; omega) | ((repeat' split) <;> first | rfl | (exfalso; omega) | (congr 2; omega) | skip)); (try rfl)) (by (unfold g_pass); (try dsimp only); (try simp only [Int.toNat_natCast]); (repeat (first | rw [if_pos (by omega)] | rw [if_neg (by omega)])); (try rfl); (all_goals first | rfl | (congr 2; omega) | ((repeat' split) <;> first | rfl | (exfalso; omega) | (congr 2; omega) | skip)); (try rfl)) (by decide) FrS.rf hI5
theorem c_M_draw {d : Nat} {I : Nat → Nat → Int32} {R : Nat → Nat → Option Nat} {L : Nat → Nat → Int64} {sh : Nat → Nat × Nat} {N : Nat} (hS : ShOK sh) (hR : RfOK R) {n : Nat} (hn : 0 < n) (hn2 : n < 100) : Me mi_M_draw d 0 0 [.ref 761, .int (nI n)] (I, R, L, sh, N) (some (.int (nI (dr (lcg (I 762 5)) % n)))) (u2 I 762 5 (lcg (I 762 5)), R, L, sh, N) := by
  have hdl := dr_lt (lcg (I 762 5))
  refine Mt.of pn_M (Nat.le_of_ble_eq_true rfl) ?_
  show Run mi_M_draw d 0 0 0 [(0, .ref 761), (1, .int (nI n))] [] (I, R, L, sh, N) _
  refine r_aload_n (x := some 761) (pc2 := 1) d_M_draw_0 rfl rfl ?_
  refine q_getR (x := some 762) (pc2 := 4) d_M_draw_1 rfl k_M_9 rfl (sh_761 hS) (rf_761_0 hR) ?_
  refine r_iconst (v := nI 5) (pc2 := 5) d_M_draw_4 rfl (by decide) ?_
  refine r_aload_n (x := some 761) (pc2 := 6) d_M_draw_5 rfl rfl ?_
  refine q_getR (x := some 762) (pc2 := 9) d_M_draw_6 rfl k_M_9 rfl (sh_761 hS) (rf_761_0 hR) ?_
  refine r_iconst (v := nI 5) (pc2 := 10) d_M_draw_9 rfl (by decide) ?_
  refine q_iaload (q := 5) (x := I 762 5) (pc2 := 11) d_M_draw_10 rfl (sh_762 hS) (nI_toInt (by omega)) (by omega) rfl ?_
  refine r_ldcw (pc2 := 14) d_M_draw_11 rfl k_M_315 ?_
  refine q_top (y := nI 1103515245) (by decide) ?_
  refine r_imul (pc2 := 15) d_M_draw_14 rfl ?_
  refine r_sipush (v := nI 12345) (pc2 := 18) d_M_draw_15 rfl (by decide) ?_
  refine r_iadd (pc2 := 19) d_M_draw_18 rfl ?_
  refine q_top (y := lcg (I 762 5)) rfl ?_
  refine q_iastore (q := 5) (pc2 := 20) d_M_draw_19 rfl (sh_762 hS) (nI_toInt (by omega)) (by omega) (fun I1 hI1 => ?_)
  refine r_aload_n (x := some 761) (pc2 := 21) d_M_draw_20 rfl rfl ?_
  refine q_getR (x := some 762) (pc2 := 24) d_M_draw_21 rfl k_M_9 rfl (sh_761 hS) (rf_761_0 hR) ?_
  refine r_iconst (v := nI 5) (pc2 := 25) d_M_draw_24 rfl (by decide) ?_
  refine q_iaload (q := 5) (x := lcg (I 762 5)) (pc2 := 26) d_M_draw_25 rfl (sh_762 hS) (nI_toInt (by omega)) (by omega) (rd_eq hI1) ?_
  refine r_bipush (v := nI 16) (pc2 := 28) d_M_draw_26 rfl (by decide) ?_
  refine r_iushr (pc2 := 29) d_M_draw_28 rfl ?_
  refine q_top (y := nI (dr (lcg (I 762 5)))) (dr_eq _) ?_
  refine r_iload_n (pc2 := 30) d_M_draw_29 rfl rfl ?_
  refine q_iremN (pc2 := 31) d_M_draw_30 rfl (by omega) (by omega) (by omega) ?_
  refine Run.ret (some (.int (nI ((dr (lcg (I 762 5))) % n)))) d_M_draw_31 ⟨_, rfl⟩ ?_
  exact ⟨rfl, by rw [hI1]⟩
