/-! THE REFERENCE: an answer, on -/
/-- the rows of nodes lie apart from the scratch -/
def TNe (kA fA cA gA : Nat) : Prop := (kA = 766 ∨ 781 ≤ kA) ∧ (fA = 767 ∨ 781 ≤ fA) ∧ (cA = 768 ∨ 781 ≤ cA) ∧ (gA = 769 ∨ 781 ≤ gA)
/-- the answers for the p-th person, by the heap -/
def PA (I : Nat → Nat → Int32) (kA fA cA gA p : Nat) : Nat → Int32 × Int32 × Int32 := ans (I 762) (fun t => trt (I kA) (I fA) (I cA) (I gA) (I 762 (6 + 2 * p)) (I 762 (6 + 2 * p + 1)).toInt.toNat t) (I 762 (6 + 2 * p)) p
theorem c_M_isSoJ {I J : Nat → Nat → Int32} {R : Nat → Nat → Option Nat} {L : Nat → Nat → Int64} {sh : Nat → Nat × Nat} {N : Nat} (hS : ShOK sh) (hR : RfOK R) {kA fA cA gA nk nt : Nat} (hT : TRf R sh kA fA cA gA nk) (hV : TV (I kA) (I fA) (I cA) nt) (hnt : nt ≤ nk) (hnk : nk ≤ 1000000) (hG : J 762 = I 762) (hk : J kA = I kA) (hf : J fA = I fA) (hc : J cA = I cA) (hg : J gA = I gA) {p : Nat} (hp : p < 24) (h0 : 0 ≤ (I 762 (6 + 2 * p + 1)).toInt) (h9 : (I 762 (6 + 2 * p + 1)).toInt ≤ 9999) {t : Nat} (ht : t < nt) {d : Nat} (hd : t + 1 ≤ d) :
    Me mi_M_isSo d 0 0 [.ref 761, .int (nI t), .int (nI p)] (J, R, L, sh, N) (some (.int (bI (trt (I kA) (I fA) (I cA) (I gA) (I 762 (6 + 2 * p)) (I 762 (6 + 2 * p + 1)).toInt.toNat t = true)))) (J, R, L, sh, N) := by
  rw [← hk, ← hf, ← hc, ← hg, ← hG]
  exact c_M_isSo hS hR hT (by rw [hk, hf, hc]; exact hV) hnt hnk hp (eq_nI (by rw [hG]; omega)) (by rw [hG]; omega) t ht d hd
theorem l_M_workedOut_211 {d : Nat} {I : Nat → Nat → Int32} {R : Nat → Nat → Option Nat} {L : Nat → Nat → Int64} {sh : Nat → Nat × Nat} {N : Nat} (hS : ShOK sh) (hR : RfOK R) {kA fA cA gA nk nt : Nat} (hT : TRf R sh kA fA cA gA nk) (hTn : TNe kA fA cA gA) (hV : TV (I kA) (I fA) (I cA) nt) (hnt : nt ≤ nk) (hnk : nk ≤ 1000000) {nP nF : Nat} (hW : WFA (I 762) nP nF nt) {p : Nat} (hp : p < nP) {J J0 : Nat → Nat → Int32} (hJ : FrA I J) (hM : MEM (PA I kA fA cA gA p) nF J) (hb : ∀ b, b < 32 → bt (J0 761 20) b = true → bt (J 761 20) b = true) {F : Nat} (hF : F < nF) (hno : PA I kA fA cA gA p F = match fst1 (fun r => (fun t => trt (I kA) (I fA) (I cA) (I gA) (I 762 (6 + 2 * p)) (I 762 (6 + 2 * p + 1)).toInt.toNat t) (I 762 (174 + 84 * F + 60 + 4 * r + 0)).toInt.toNat) (I 762 (174 + 84 * F + 4)).toInt.toNat with
    | some r => (if 1000 ≤ (I 762 (174 + 84 * F + 60 + 4 * r + 1)).toInt then I 762 (174 + 84 * F + 60 + 4 * r + 1) - nI 1000 else shV (bkt (nI (F + 1)) (I 762 (6 + 2 * p))).toInt (I 762 (174 + 84 * F + 60 + 4 * r + 1)) (I 762 (174 + 84 * F + 60 + 4 * r + 2)) (I 762 (174 + 84 * F + 60 + 4 * r + 3)), 6, nI r)
    | none => (I 762 (174 + 84 * F + 3), 7, -1)) (hd : nt + 3 ≤ d) : ∀ (n_ : Nat) (r : Nat), (I 762 (174 + 84 * F + 4)).toInt.toNat - r = n_ → (r ≤ (I 762 (174 + 84 * F + 4)).toInt.toNat) → (∀ j, j < r → (fun r => (fun t => trt (I kA) (I fA) (I cA) (I gA) (I 762 (6 + 2 * p)) (I 762 (6 + 2 * p + 1)).toInt.toNat t) (I 762 (174 + 84 * F + 60 + 4 * r + 0)).toInt.toNat) j = false) → Run mi_M_workedOut d 0 0 211 [(0, .ref 761), (1, .int (nI F)), (2, .int (nI p)), (3, .int ((I 762 (6 + 2 * p)))), (6, .int (nI r))] [] (J, R, L, sh, N) (WQ (PA I kA fA cA gA p) nF F I J0 R L sh N) := by
  intro n_
  induction n_ using Nat.strongRecOn with | ind n_ ih_ => ?_
  intro r hn_ v0_ v1_
  have hG : J 762 = I 762 := hJ.row (by decide) (by decide) (by decide) (by decide)
  obtain ⟨hn1, hn2, hn3, hn4⟩ := hTn
  have hk_ : J kA = I kA := hJ.row (by omega) (by omega) (by omega) (by omega)
  have hf_ : J fA = I fA := hJ.row (by omega) (by omega) (by omega) (by omega)
  have hc_ : J cA = I cA := hJ.row (by omega) (by omega) (by omega) (by omega)
  have hg_ : J gA = I gA := hJ.row (by omega) (by omega) (by omega) (by omega)
  obtain ⟨hPc, hP24, hFc, hF12, hWF, hWP⟩ := hW
  obtain ⟨⟨hat0, hat9⟩, -⟩ := hWP p hp
  obtain ⟨w0, w1, w2, w3, w4, w5, w6, w7, w8, w9, wN, wR, wK, wO⟩ := hWF F hF
  obtain ⟨nR, hnR, hnR2⟩ : ∃ nR : Nat, I 762 (174 + 84 * F + 4) = nI nR ∧ (I 762 (174 + 84 * F + 4)).toInt = (nR : Int) := ⟨(I 762 (174 + 84 * F + 4)).toInt.toNat, eq_nI (by omega), by omega⟩
  refine r_iload (pc2 := 213) d_M_workedOut_211 rfl rfl ?_
  refine r_aload_n (x := some 761) (pc2 := 214) d_M_workedOut_213 rfl rfl ?_
  refine r_iload_n (pc2 := 215) d_M_workedOut_214 rfl rfl ?_
  refine r_iconst (v := nI 4) (pc2 := 216) d_M_workedOut_215 rfl (by decide) ?_
  refine q_callv (M2 := mi_M_of) (pc2 := 219) d_M_workedOut_216 rfl k_M_76 cm_M_of cv_M_of (sh_761 hS) (by decide) rfl rfl rfl (Nat.le_of_ble_eq_true rfl) (c_M_of (I := J) (F := F) (W := 4) hS hR (by omega)) (d2 := d - 1) (by omega) (Nat.le_of_eq (Nat.zero_add _)) (Nat.le_of_eq (Nat.zero_add _)) ?_
  refine q_top (y := nI nR) ((congrFun hG _).trans (hnR)) ?_
  refine q_icmp_ge (tgt := 289) (A := ((r : Nat) : Int)) (B := ((nR : Nat) : Int)) (pc2 := 222) d_M_workedOut_219 rfl rfl (nI_toInt (by omega)) (nI_toInt (by omega)) (fun c1 => ?_) (fun c1 => ?_)
  · have hfd : fst1 (fun r => (fun t => trt (I kA) (I fA) (I cA) (I gA) (I 762 (6 + 2 * p)) (I 762 (6 + 2 * p + 1)).toInt.toNat t) (I 762 (174 + 84 * F + 60 + 4 * r + 0)).toInt.toNat) (I 762 (174 + 84 * F + 4)).toInt.toNat = none := fst1_none (fun j hj => v1_ j (by omega))
    have e2 := hno
    rw [hfd] at e2
    dsimp only at e2
    refine r_aload_n (x := some 761) (pc2 := 290) d_M_workedOut_289 rfl rfl ?_
    refine r_aload_n (x := some 761) (pc2 := 291) d_M_workedOut_290 rfl rfl ?_
    refine r_iload_n (pc2 := 292) d_M_workedOut_291 rfl rfl ?_
    refine r_iconst (v := nI 3) (pc2 := 293) d_M_workedOut_292 rfl (by decide) ?_
    refine q_callv (M2 := mi_M_of) (pc2 := 296) d_M_workedOut_293 rfl k_M_76 cm_M_of cv_M_of (sh_761 hS) (by decide) rfl rfl rfl (Nat.le_of_ble_eq_true rfl) (c_M_of (I := J) (F := F) (W := 3) hS hR (by omega)) (d2 := d - 1) (by omega) (Nat.le_of_eq (Nat.zero_add _)) (Nat.le_of_eq (Nat.zero_add _)) ?_
    refine q_top (y := I 762 (174 + 84 * F + 3)) (congrFun hG _) ?_
    refine r_bipush (v := nI 7) (pc2 := 298) d_M_workedOut_296 rfl (by decide) ?_
    refine r_iconst (v := (-1 : Int32)) (pc2 := 299) d_M_workedOut_298 rfl (by decide) ?_
    refine q_callv (M2 := mi_M_isIt) (pc2 := 302) d_M_workedOut_299 rfl k_M_182 cm_M_isIt cv_M_isIt (sh_761 hS) (by decide) rfl rfl rfl (Nat.le_of_ble_eq_true rfl) (c_M_isIt (I := J) (v := I 762 (174 + 84 * F + 3)) (b := nI 7) (c := (-1 : Int32)) hS hR) (d2 := d - 1) (by omega) (Nat.le_of_eq (Nat.zero_add _)) (Nat.le_of_eq (Nat.zero_add _)) ?_
    obtain ⟨I2, hI2⟩ : ∃ x, x = u2 J 761 15 (nI 7) := ⟨_, rfl⟩
    obtain ⟨I3, hI3⟩ : ∃ x, x = u2 I2 761 16 ((-1 : Int32)) := ⟨_, rfl⟩
    rw [← hI2, ← hI3]
    refine Run.ret (some (.int (I 762 (174 + 84 * F + 3)))) d_M_workedOut_302 ⟨_, rfl⟩ ?_
    exact WQ.mk (by rw [e2]; rfl) hJ hM hI2 hI3 hb
  · obtain ⟨⟨r1, r2⟩, r3, r4, r5⟩ := wR r (by omega)
    obtain ⟨t, ht, ht2⟩ : ∃ t : Nat, I 762 (174 + 84 * F + 60 + 4 * r + 0) = nI t ∧ (I 762 (174 + 84 * F + 60 + 4 * r + 0)).toInt = (t : Int) := ⟨(I 762 (174 + 84 * F + 60 + 4 * r + 0)).toInt.toNat, eq_nI (by omega), by omega⟩
    rw [ht2] at r1 r2
    refine r_aload_n (x := some 761) (pc2 := 223) d_M_workedOut_222 rfl rfl ?_
    refine r_aload_n (x := some 761) (pc2 := 224) d_M_workedOut_223 rfl rfl ?_
    refine r_iload_n (pc2 := 225) d_M_workedOut_224 rfl rfl ?_
    refine r_iload (pc2 := 227) d_M_workedOut_225 rfl rfl ?_
    refine q_callv (M2 := mi_M_tree) (pc2 := 230) d_M_workedOut_227 rfl k_M_185 cm_M_tree cv_M_tree (sh_761 hS) (by decide) rfl rfl rfl (Nat.le_of_ble_eq_true rfl) (c_M_tree (I := J) (F := F) (r := r) hS hR (by omega) (by omega) (by omega)) (d2 := d - 1) (by omega) (Nat.le_of_eq (Nat.zero_add _)) (Nat.le_of_eq (Nat.zero_add _)) ?_
    refine q_top (y := nI t) ((congrFun hG _).trans (ht)) ?_
    refine r_iload_n (pc2 := 231) d_M_workedOut_230 rfl rfl ?_
    refine q_callv (M2 := mi_M_isSo) (pc2 := 234) d_M_workedOut_231 rfl k_M_100 cm_M_isSo cv_M_isSo (sh_761 hS) (by decide) rfl rfl rfl (Nat.le_of_ble_eq_true rfl) (c_M_isSoJ (I := I) (J := J) hS hR hT hV hnt hnk hG hk_ hf_ hc_ hg_ (p := p) (t := t) (by omega) hat0 hat9 (by omega) (by omega)) (d2 := d - 1) (by omega) (Nat.le_of_eq (Nat.zero_add _)) (Nat.le_of_eq (Nat.zero_add _)) ?_
    refine q_bif_eq (tgt := 283) (pc2 := 237) d_M_workedOut_234 rfl rfl (fun c4 => ?_) (fun c4 => ?_)
    · refine q_iinc (b := 1) (pc2 := 286) d_M_workedOut_283 rfl rfl (by decide) (Nat.le_of_ble_eq_true rfl) ?_
      refine r_goto (tgt := 211) d_M_workedOut_286 rfl ?_
      refine Run.sub (l2 := [(0, .ref 761), (1, .int (nI F)), (2, .int (nI p)), (3, .int ((I 762 (6 + 2 * p)))), (6, .int (nI (r + 1)))]) ⟨rfl, rfl, rfl, rfl, rfl, trivial⟩ ?_
      exact ih_ ((I 762 (174 + 84 * F + 4)).toInt.toNat - (r + 1)) (by omega) (r + 1) rfl (by omega) (fun j hj => by
        rcases Nat.lt_or_ge j r with q | q
        · exact v1_ j q
        · rw [show j = r by omega]
          have : ¬ _ := c4
          simp only [Bool.not_eq_true] at this
          show trt _ _ _ _ _ _ _ = false
          rw [ht2, Int.toNat_natCast]; exact this)
    · have hfd : fst1 (fun r => (fun t => trt (I kA) (I fA) (I cA) (I gA) (I 762 (6 + 2 * p)) (I 762 (6 + 2 * p + 1)).toInt.toNat t) (I 762 (174 + 84 * F + 60 + 4 * r + 0)).toInt.toNat) (I 762 (174 + 84 * F + 4)).toInt.toNat = some r := fst1_some (i := r) v1_ (by show trt (I kA) (I fA) (I cA) (I gA) (I 762 (6 + 2 * p)) (I 762 (6 + 2 * p + 1)).toInt.toNat _ = true; rw [ht2, Int.toNat_natCast]; exact c4) (by omega)
      have e2 := hno
      rw [hfd] at e2
      dsimp only at e2
      refine r_aload_n (x := some 761) (pc2 := 238) d_M_workedOut_237 rfl rfl ?_
      refine r_aload_n (x := some 761) (pc2 := 239) d_M_workedOut_238 rfl rfl ?_
      refine r_iload_n (pc2 := 240) d_M_workedOut_239 rfl rfl ?_
      refine r_iload (pc2 := 242) d_M_workedOut_240 rfl rfl ?_
      refine q_callv (M2 := mi_M_isFixed) (pc2 := 245) d_M_workedOut_242 rfl k_M_188 cm_M_isFixed cv_M_isFixed (sh_761 hS) (by decide) rfl rfl rfl (Nat.le_of_ble_eq_true rfl) (c_M_isFixed (I := J) (F := F) (r := r) hS hR (by omega) (by omega) (by omega)) (d2 := d - 1) (by omega) (Nat.le_of_eq (Nat.zero_add _)) (Nat.le_of_eq (Nat.zero_add _)) ?_
      refine q_top (y := bI (1000 ≤ (I 762 (174 + 84 * F + 60 + 4 * r + 1)).toInt)) (by rw [hG]) ?_
      refine q_bif_eq (tgt := 267) (pc2 := 248) d_M_workedOut_245 rfl rfl (fun c5 => ?_) (fun c5 => ?_)
      · rw [if_neg c5] at e2
        have hshq : ∀ k, 1 ≤ k → k < 4 → 0 ≤ (J 762 (174 + 84 * F + 60 + 4 * r + k)).toInt ∧ (J 762 (174 + 84 * F + 60 + 4 * r + k)).toInt ≤ 333 := by
          rw [hG]
          intro k k1 k4
          rcases (show k = 1 ∨ k = 2 ∨ k = 3 by omega) with rfl | rfl | rfl
          · omega
          · exact r4
          · exact r5
        refine r_aload_n (x := some 761) (pc2 := 268) d_M_workedOut_267 rfl rfl ?_
        refine r_iload_n (pc2 := 269) d_M_workedOut_268 rfl rfl ?_
        refine r_iload (pc2 := 271) d_M_workedOut_269 rfl rfl ?_
        refine r_iload_n (pc2 := 272) d_M_workedOut_271 rfl rfl ?_
        refine q_callv (M2 := mi_M_shared) (pc2 := 275) d_M_workedOut_272 rfl k_M_191 cm_M_shared cv_M_shared (sh_761 hS) (by decide) rfl rfl rfl (Nat.le_of_ble_eq_true rfl) (c_M_shared (I := J) (F := F) (r := r) (key := (I 762 (6 + 2 * p))) hS hR (by omega) (by omega) hshq (by omega)) (d2 := d - 1) (by omega) (Nat.le_of_eq (Nat.zero_add _)) (Nat.le_of_eq (Nat.zero_add _)) ?_
        refine q_top (y := shV (bkt (nI (F + 1)) ((I 762 (6 + 2 * p)))).toInt (I 762 (174 + 84 * F + 60 + 4 * r + 1)) (I 762 (174 + 84 * F + 60 + 4 * r + 2)) (I 762 (174 + 84 * F + 60 + 4 * r + 3))) (by rw [hG]) ?_
        refine r_bipush (v := nI 6) (pc2 := 277) d_M_workedOut_275 rfl (by decide) ?_
        refine r_iload (pc2 := 279) d_M_workedOut_277 rfl rfl ?_
        refine q_callv (M2 := mi_M_isIt) (pc2 := 282) d_M_workedOut_279 rfl k_M_182 cm_M_isIt cv_M_isIt (sh_761 hS) (by decide) rfl rfl rfl (Nat.le_of_ble_eq_true rfl) (c_M_isIt (I := J) (v := shV (bkt (nI (F + 1)) ((I 762 (6 + 2 * p)))).toInt (I 762 (174 + 84 * F + 60 + 4 * r + 1)) (I 762 (174 + 84 * F + 60 + 4 * r + 2)) (I 762 (174 + 84 * F + 60 + 4 * r + 3))) (b := nI 6) (c := nI r) hS hR) (d2 := d - 1) (by omega) (Nat.le_of_eq (Nat.zero_add _)) (Nat.le_of_eq (Nat.zero_add _)) ?_
        obtain ⟨I6, hI6⟩ : ∃ x, x = u2 J 761 15 (nI 6) := ⟨_, rfl⟩
        obtain ⟨I7, hI7⟩ : ∃ x, x = u2 I6 761 16 (nI r) := ⟨_, rfl⟩
        rw [← hI6, ← hI7]
        refine Run.ret (some (.int (shV (bkt (nI (F + 1)) ((I 762 (6 + 2 * p)))).toInt (I 762 (174 + 84 * F + 60 + 4 * r + 1)) (I 762 (174 + 84 * F + 60 + 4 * r + 2)) (I 762 (174 + 84 * F + 60 + 4 * r + 3))))) d_M_workedOut_282 ⟨_, rfl⟩ ?_
        exact WQ.mk (by rw [e2]; rfl) hJ hM hI6 hI7 hb
      · rw [if_pos c5] at e2
        refine r_aload_n (x := some 761) (pc2 := 249) d_M_workedOut_248 rfl rfl ?_
        refine q_getR (x := some 762) (pc2 := 252) d_M_workedOut_249 rfl k_M_9 rfl (sh_761 hS) (rf_761_0 hR) ?_
        refine r_iload_n (pc2 := 253) d_M_workedOut_252 rfl rfl ?_
        refine r_iload (pc2 := 255) d_M_workedOut_253 rfl rfl ?_
        refine r_iconst (v := nI 1) (pc2 := 256) d_M_workedOut_255 rfl (by decide) ?_
        refine q_calls (M2 := mi_M_ruleAt) (pc2 := 259) d_M_workedOut_256 rfl k_M_80 cm_M_ruleAt cs_M_ruleAt rfl rfl (Nat.le_of_ble_eq_true rfl) (c_M_ruleAt (F := F) (r := r) (k := 1)) (d2 := d - 1) (by omega) (Nat.le_of_eq (Nat.zero_add _)) (Nat.le_of_eq (Nat.zero_add _)) ?_
        refine q_iaload (q := 174 + 84 * F + 60 + 4 * r + 1) (x := I 762 (174 + 84 * F + 60 + 4 * r + 1)) (pc2 := 260) d_M_workedOut_259 rfl (sh_762 hS) (nI_toInt (by omega)) (by omega) (congrFun hG _) ?_
        refine r_sipush (v := nI 1000) (pc2 := 263) d_M_workedOut_260 rfl (by decide) ?_
        refine r_isub (pc2 := 264) d_M_workedOut_263 rfl ?_
        refine r_goto (tgt := 275) d_M_workedOut_264 rfl ?_
        refine r_bipush (v := nI 6) (pc2 := 277) d_M_workedOut_275 rfl (by decide) ?_
        refine r_iload (pc2 := 279) d_M_workedOut_277 rfl rfl ?_
        refine q_callv (M2 := mi_M_isIt) (pc2 := 282) d_M_workedOut_279 rfl k_M_182 cm_M_isIt cv_M_isIt (sh_761 hS) (by decide) rfl rfl rfl (Nat.le_of_ble_eq_true rfl) (c_M_isIt (I := J) (v := (I 762 (174 + 84 * F + 60 + 4 * r + 1)) - (nI 1000)) (b := nI 6) (c := nI r) hS hR) (d2 := d - 1) (by omega) (Nat.le_of_eq (Nat.zero_add _)) (Nat.le_of_eq (Nat.zero_add _)) ?_
        obtain ⟨I8, hI8⟩ : ∃ x, x = u2 J 761 15 (nI 6) := ⟨_, rfl⟩
        obtain ⟨I9, hI9⟩ : ∃ x, x = u2 I8 761 16 (nI r) := ⟨_, rfl⟩
        rw [← hI8, ← hI9]
        refine Run.ret (some (.int ((I 762 (174 + 84 * F + 60 + 4 * r + 1)) - (nI 1000)))) d_M_workedOut_282 ⟨_, rfl⟩ ?_
        exact WQ.mk (by rw [e2]; rfl) hJ hM hI8 hI9 hb
theorem t_M_workedOut_125 {d : Nat} {I : Nat → Nat → Int32} {R : Nat → Nat → Option Nat} {L : Nat → Nat → Int64} {sh : Nat → Nat × Nat} {N : Nat} (hS : ShOK sh) (hR : RfOK R) {kA fA cA gA nk nt : Nat} (hT : TRf R sh kA fA cA gA nk) (hTn : TNe kA fA cA gA) (hV : TV (I kA) (I fA) (I cA) nt) (hnt : nt ≤ nk) (hnk : nk ≤ 1000000) {nP nF : Nat} (hW : WFA (I 762) nP nF nt) {p : Nat} (hp : p < nP) {J J0 : Nat → Nat → Int32} (hJ : FrA I J) (hM : MEM (PA I kA fA cA gA p) nF J) (hb : ∀ b, b < 32 → bt (J0 761 20) b = true → bt (J 761 20) b = true) {F : Nat} (hF : F < nF) {kv nv : Int32} (hno : PA I kA fA cA gA p F = wo2 (I 762) (fun t => trt (I kA) (I fA) (I cA) (I gA) (I 762 (6 + 2 * p)) (I 762 (6 + 2 * p + 1)).toInt.toNat t) (I 762 (6 + 2 * p)) p F) (hd : nt + 3 ≤ d) : Run mi_M_workedOut d 0 0 125 [(0, .ref 761), (1, .int (nI F)), (2, .int (nI p)), (3, .int (I 762 (6 + 2 * p))), (4, .int kv), (5, .int nv)] [] (J, R, L, sh, N) (WQ (PA I kA fA cA gA p) nF F I J0 R L sh N) := by
  have hG : J 762 = I 762 := hJ.row (by decide) (by decide) (by decide) (by decide)
  obtain ⟨hn1, hn2, hn3, hn4⟩ := hTn
  have hk_ : J kA = I kA := hJ.row (by omega) (by omega) (by omega) (by omega)
  have hf_ : J fA = I fA := hJ.row (by omega) (by omega) (by omega) (by omega)
  have hc_ : J cA = I cA := hJ.row (by omega) (by omega) (by omega) (by omega)
  have hg_ : J gA = I gA := hJ.row (by omega) (by omega) (by omega) (by omega)
  obtain ⟨hPc, hP24, hFc, hF12, hWF, hWP⟩ := hW
  obtain ⟨⟨hat0, hat9⟩, -⟩ := hWP p hp
  obtain ⟨w0, w1, w2, w3, w4, w5, w6, w7, w8, w9, wN, wR, wK, wO⟩ := hWF F hF
  have hkp := wK p (by omega)
  unfold wo2 at hno
  obtain ⟨B, hB⟩ : ∃ B, B = bkt (I 762 (174 + 84 * F + 7) + nI 100) (I 762 (6 + 2 * p)) := ⟨_, rfl⟩
  rw [← hB] at hno
  refine r_aload_n (x := some 761) (pc2 := 126) d_M_workedOut_125 rfl rfl ?_
  refine r_iload_n (pc2 := 127) d_M_workedOut_126 rfl rfl ?_
  refine r_bipush (v := nI 7) (pc2 := 129) d_M_workedOut_127 rfl (by decide) ?_
  refine q_callv (M2 := mi_M_of) (pc2 := 132) d_M_workedOut_129 rfl k_M_76 cm_M_of cv_M_of (sh_761 hS) (by decide) rfl rfl rfl (Nat.le_of_ble_eq_true rfl) (c_M_of (I := J) (F := F) (W := 7) hS hR (by omega)) (d2 := d - 1) (by omega) (Nat.le_of_eq (Nat.zero_add _)) (Nat.le_of_eq (Nat.zero_add _)) ?_
  refine q_top (y := I 762 (174 + 84 * F + 7)) (congrFun hG _) ?_
  refine r_istore (pc2 := 134) d_M_workedOut_132 rfl (Nat.le_of_ble_eq_true rfl) ?_
  refine r_iload (pc2 := 136) d_M_workedOut_134 rfl rfl ?_
  refine q_if_lt (tgt := 180) (A := (I 762 (174 + 84 * F + 7)).toInt) (pc2 := 139) d_M_workedOut_136 rfl rfl (rfl) (fun c1 => ?_) (fun c1 => ?_)
  · have e2 := hno
    rw [if_neg (by omega)] at e2
    refine r_aload_n (x := some 761) (pc2 := 181) d_M_workedOut_180 rfl rfl ?_
    refine r_iload_n (pc2 := 182) d_M_workedOut_181 rfl rfl ?_
    refine r_bipush (v := nI 36) (pc2 := 184) d_M_workedOut_182 rfl (by decide) ?_
    refine r_iload_n (pc2 := 185) d_M_workedOut_184 rfl rfl ?_
    refine q_iaddN (pc2 := 186) d_M_workedOut_185 rfl ?_
    refine q_callv (M2 := mi_M_of) (pc2 := 189) d_M_workedOut_186 rfl k_M_76 cm_M_of cv_M_of (sh_761 hS) (by decide) rfl rfl rfl (Nat.le_of_ble_eq_true rfl) (c_M_of (I := J) (F := F) (W := 36 + p) hS hR (by omega)) (d2 := d - 1) (by omega) (Nat.le_of_eq (Nat.zero_add _)) (Nat.le_of_eq (Nat.zero_add _)) ?_
    refine q_top (y := I 762 (174 + 84 * F + (36 + p))) (congrFun hG _) ?_
    refine q_if_le (tgt := 208) (A := (I 762 (174 + 84 * F + (36 + p))).toInt) (pc2 := 192) d_M_workedOut_189 rfl rfl (rfl) (fun c2 => ?_) (fun c2 => ?_)
    · rw [if_neg (by omega)] at e2
      refine r_iconst (v := nI 0) (pc2 := 209) d_M_workedOut_208 rfl (by decide) ?_
      refine r_istore (pc2 := 211) d_M_workedOut_209 rfl (Nat.le_of_ble_eq_true rfl) ?_
      refine Run.sub (l2 := [(0, .ref 761), (1, .int (nI F)), (2, .int (nI p)), (3, .int (I 762 (6 + 2 * p))), (6, .int (nI 0))]) ⟨rfl, rfl, rfl, rfl, rfl, trivial⟩ ?_
      exact l_M_workedOut_211 hS hR hT ⟨hn1, hn2, hn3, hn4⟩ hV hnt hnk ⟨hPc, hP24, hFc, hF12, hWF, hWP⟩ hp hJ hM hb hF e2 hd _ 0 rfl (by omega) (fun j hj => absurd hj (by omega))
    · have e1 := e2
      rw [if_pos (by omega)] at e1
      refine r_aload_n (x := some 761) (pc2 := 193) d_M_workedOut_192 rfl rfl ?_
      refine r_aload_n (x := some 761) (pc2 := 194) d_M_workedOut_193 rfl rfl ?_
      refine r_iload_n (pc2 := 195) d_M_workedOut_194 rfl rfl ?_
      refine r_bipush (v := nI 36) (pc2 := 197) d_M_workedOut_195 rfl (by decide) ?_
      refine r_iload_n (pc2 := 198) d_M_workedOut_197 rfl rfl ?_
      refine q_iaddN (pc2 := 199) d_M_workedOut_198 rfl ?_
      refine q_callv (M2 := mi_M_of) (pc2 := 202) d_M_workedOut_199 rfl k_M_76 cm_M_of cv_M_of (sh_761 hS) (by decide) rfl rfl rfl (Nat.le_of_ble_eq_true rfl) (c_M_of (I := J) (F := F) (W := 36 + p) hS hR (by omega)) (d2 := d - 1) (by omega) (Nat.le_of_eq (Nat.zero_add _)) (Nat.le_of_eq (Nat.zero_add _)) ?_
      refine q_top (y := I 762 (174 + 84 * F + (36 + p))) (congrFun hG _) ?_
      refine r_iconst (v := nI 5) (pc2 := 203) d_M_workedOut_202 rfl (by decide) ?_
      refine r_iconst (v := (-1 : Int32)) (pc2 := 204) d_M_workedOut_203 rfl (by decide) ?_
      refine q_callv (M2 := mi_M_isIt) (pc2 := 207) d_M_workedOut_204 rfl k_M_182 cm_M_isIt cv_M_isIt (sh_761 hS) (by decide) rfl rfl rfl (Nat.le_of_ble_eq_true rfl) (c_M_isIt (I := J) (v := I 762 (174 + 84 * F + (36 + p))) (b := nI 5) (c := (-1 : Int32)) hS hR) (d2 := d - 1) (by omega) (Nat.le_of_eq (Nat.zero_add _)) (Nat.le_of_eq (Nat.zero_add _)) ?_
      obtain ⟨I3, hI3⟩ : ∃ x, x = u2 J 761 15 (nI 5) := ⟨_, rfl⟩
      obtain ⟨I4, hI4⟩ : ∃ x, x = u2 I3 761 16 ((-1 : Int32)) := ⟨_, rfl⟩
      rw [← hI3, ← hI4]
      refine Run.ret (some (.int (I 762 (174 + 84 * F + (36 + p))))) d_M_workedOut_207 ⟨_, rfl⟩ ?_
      exact WQ.mk (by rw [e1]; rfl) hJ hM hI3 hI4 hb
  · refine r_iload (pc2 := 141) d_M_workedOut_139 rfl rfl ?_
    refine r_bipush (v := nI 100) (pc2 := 143) d_M_workedOut_141 rfl (by decide) ?_
    refine r_iadd (pc2 := 144) d_M_workedOut_143 rfl ?_
    refine r_iload_n (pc2 := 145) d_M_workedOut_144 rfl rfl ?_
    refine q_calls (M2 := mi_M_bucketOf) (pc2 := 148) d_M_workedOut_145 rfl k_M_161 cm_M_bucketOf cs_M_bucketOf rfl rfl (Nat.le_of_ble_eq_true rfl) (c_M_bucketOf (s := (I 762 (174 + 84 * F + 7)) + (nI 100)) (k := (I 762 (6 + 2 * p)))) (d2 := d - 1) (by omega) (Nat.le_of_eq (Nat.zero_add _)) (Nat.le_of_eq (Nat.zero_add _)) ?_
    refine q_top (y := B) hB.symm ?_
    refine r_i2l (pc2 := 149) d_M_workedOut_148 rfl ?_
    refine r_aload_n (x := some 761) (pc2 := 150) d_M_workedOut_149 rfl rfl ?_
    refine r_iload_n (pc2 := 151) d_M_workedOut_150 rfl rfl ?_
    refine r_bipush (v := nI 8) (pc2 := 153) d_M_workedOut_151 rfl (by decide) ?_
    refine q_callv (M2 := mi_M_of) (pc2 := 156) d_M_workedOut_153 rfl k_M_76 cm_M_of cv_M_of (sh_761 hS) (by decide) rfl rfl rfl (Nat.le_of_ble_eq_true rfl) (c_M_of (I := J) (F := F) (W := 8) hS hR (by omega)) (d2 := d - 1) (by omega) (Nat.le_of_eq (Nat.zero_add _)) (Nat.le_of_eq (Nat.zero_add _)) ?_
    refine q_top (y := I 762 (174 + 84 * F + 8)) (congrFun hG _) ?_
    refine r_i2l (pc2 := 157) d_M_workedOut_156 rfl ?_
    refine r_aload_n (x := some 761) (pc2 := 158) d_M_workedOut_157 rfl rfl ?_
    refine r_iload_n (pc2 := 159) d_M_workedOut_158 rfl rfl ?_
    refine r_bipush (v := nI 9) (pc2 := 161) d_M_workedOut_159 rfl (by decide) ?_
    refine q_callv (M2 := mi_M_of) (pc2 := 164) d_M_workedOut_161 rfl k_M_76 cm_M_of cv_M_of (sh_761 hS) (by decide) rfl rfl rfl (Nat.le_of_ble_eq_true rfl) (c_M_of (I := J) (F := F) (W := 9) hS hR (by omega)) (d2 := d - 1) (by omega) (Nat.le_of_eq (Nat.zero_add _)) (Nat.le_of_eq (Nat.zero_add _)) ?_
    refine q_top (y := I 762 (174 + 84 * F + 9)) (congrFun hG _) ?_
    refine r_i2l (pc2 := 165) d_M_workedOut_164 rfl ?_
    refine q_calls (M2 := mi_M_in) (pc2 := 168) d_M_workedOut_165 rfl k_M_68 cm_M_in cs_M_in rfl rfl (Nat.le_of_ble_eq_true rfl) (c_M_in (A := B.toInt) (B := (I 762 (174 + 84 * F + 8)).toInt) (C := (I 762 (174 + 84 * F + 9)).toInt) (toInt64_toInt (rfl)) (toInt64_toInt (rfl)) (toInt64_toInt (rfl))) (d2 := d - 1) (by omega) (Nat.le_of_eq (Nat.zero_add _)) (Nat.le_of_eq (Nat.zero_add _)) ?_
    refine q_bif_ne (tgt := 180) (pc2 := 171) d_M_workedOut_168 rfl rfl (fun c5 => ?_) (fun c5 => ?_)
    · have e2 := hno
      rw [if_neg (by omega)] at e2
      refine r_aload_n (x := some 761) (pc2 := 181) d_M_workedOut_180 rfl rfl ?_
      refine r_iload_n (pc2 := 182) d_M_workedOut_181 rfl rfl ?_
      refine r_bipush (v := nI 36) (pc2 := 184) d_M_workedOut_182 rfl (by decide) ?_
      refine r_iload_n (pc2 := 185) d_M_workedOut_184 rfl rfl ?_
      refine q_iaddN (pc2 := 186) d_M_workedOut_185 rfl ?_
      refine q_callv (M2 := mi_M_of) (pc2 := 189) d_M_workedOut_186 rfl k_M_76 cm_M_of cv_M_of (sh_761 hS) (by decide) rfl rfl rfl (Nat.le_of_ble_eq_true rfl) (c_M_of (I := J) (F := F) (W := 36 + p) hS hR (by omega)) (d2 := d - 1) (by omega) (Nat.le_of_eq (Nat.zero_add _)) (Nat.le_of_eq (Nat.zero_add _)) ?_
      refine q_top (y := I 762 (174 + 84 * F + (36 + p))) (congrFun hG _) ?_
      refine q_if_le (tgt := 208) (A := (I 762 (174 + 84 * F + (36 + p))).toInt) (pc2 := 192) d_M_workedOut_189 rfl rfl (rfl) (fun c6 => ?_) (fun c6 => ?_)
      · rw [if_neg (by omega)] at e2
        refine r_iconst (v := nI 0) (pc2 := 209) d_M_workedOut_208 rfl (by decide) ?_
        refine r_istore (pc2 := 211) d_M_workedOut_209 rfl (Nat.le_of_ble_eq_true rfl) ?_
        refine Run.sub (l2 := [(0, .ref 761), (1, .int (nI F)), (2, .int (nI p)), (3, .int (I 762 (6 + 2 * p))), (6, .int (nI 0))]) ⟨rfl, rfl, rfl, rfl, rfl, trivial⟩ ?_
        exact l_M_workedOut_211 hS hR hT ⟨hn1, hn2, hn3, hn4⟩ hV hnt hnk ⟨hPc, hP24, hFc, hF12, hWF, hWP⟩ hp hJ hM hb hF e2 hd _ 0 rfl (by omega) (fun j hj => absurd hj (by omega))
      · have e1 := e2
        rw [if_pos (by omega)] at e1
        refine r_aload_n (x := some 761) (pc2 := 193) d_M_workedOut_192 rfl rfl ?_
        refine r_aload_n (x := some 761) (pc2 := 194) d_M_workedOut_193 rfl rfl ?_
        refine r_iload_n (pc2 := 195) d_M_workedOut_194 rfl rfl ?_
        refine r_bipush (v := nI 36) (pc2 := 197) d_M_workedOut_195 rfl (by decide) ?_
        refine r_iload_n (pc2 := 198) d_M_workedOut_197 rfl rfl ?_
        refine q_iaddN (pc2 := 199) d_M_workedOut_198 rfl ?_
        refine q_callv (M2 := mi_M_of) (pc2 := 202) d_M_workedOut_199 rfl k_M_76 cm_M_of cv_M_of (sh_761 hS) (by decide) rfl rfl rfl (Nat.le_of_ble_eq_true rfl) (c_M_of (I := J) (F := F) (W := 36 + p) hS hR (by omega)) (d2 := d - 1) (by omega) (Nat.le_of_eq (Nat.zero_add _)) (Nat.le_of_eq (Nat.zero_add _)) ?_
        refine q_top (y := I 762 (174 + 84 * F + (36 + p))) (congrFun hG _) ?_
        refine r_iconst (v := nI 5) (pc2 := 203) d_M_workedOut_202 rfl (by decide) ?_
        refine r_iconst (v := (-1 : Int32)) (pc2 := 204) d_M_workedOut_203 rfl (by decide) ?_
        refine q_callv (M2 := mi_M_isIt) (pc2 := 207) d_M_workedOut_204 rfl k_M_182 cm_M_isIt cv_M_isIt (sh_761 hS) (by decide) rfl rfl rfl (Nat.le_of_ble_eq_true rfl) (c_M_isIt (I := J) (v := I 762 (174 + 84 * F + (36 + p))) (b := nI 5) (c := (-1 : Int32)) hS hR) (d2 := d - 1) (by omega) (Nat.le_of_eq (Nat.zero_add _)) (Nat.le_of_eq (Nat.zero_add _)) ?_
        obtain ⟨I7, hI7⟩ : ∃ x, x = u2 J 761 15 (nI 5) := ⟨_, rfl⟩
        obtain ⟨I8, hI8⟩ : ∃ x, x = u2 I7 761 16 ((-1 : Int32)) := ⟨_, rfl⟩
        rw [← hI7, ← hI8]
        refine Run.ret (some (.int (I 762 (174 + 84 * F + (36 + p))))) d_M_workedOut_207 ⟨_, rfl⟩ ?_
        exact WQ.mk (by rw [e1]; rfl) hJ hM hI7 hI8 hb
    · have e1 := hno
      rw [if_pos (by omega)] at e1
      refine r_aload_n (x := some 761) (pc2 := 172) d_M_workedOut_171 rfl rfl ?_
      refine r_iconst (v := nI 0) (pc2 := 173) d_M_workedOut_172 rfl (by decide) ?_
      refine r_iconst (v := nI 4) (pc2 := 174) d_M_workedOut_173 rfl (by decide) ?_
      refine r_iload (pc2 := 176) d_M_workedOut_174 rfl rfl ?_
      refine q_callv (M2 := mi_M_isIt) (pc2 := 179) d_M_workedOut_176 rfl k_M_182 cm_M_isIt cv_M_isIt (sh_761 hS) (by decide) rfl rfl rfl (Nat.le_of_ble_eq_true rfl) (c_M_isIt (I := J) (v := nI 0) (b := nI 4) (c := I 762 (174 + 84 * F + 7)) hS hR) (d2 := d - 1) (by omega) (Nat.le_of_eq (Nat.zero_add _)) (Nat.le_of_eq (Nat.zero_add _)) ?_
      obtain ⟨I9, hI9⟩ : ∃ x, x = u2 J 761 15 (nI 4) := ⟨_, rfl⟩
      obtain ⟨I10, hI10⟩ : ∃ x, x = u2 I9 761 16 (I 762 (174 + 84 * F + 7)) := ⟨_, rfl⟩
      rw [← hI9, ← hI10]
      refine Run.ret (some (.int (nI 0))) d_M_workedOut_179 ⟨_, rfl⟩ ?_
      exact WQ.mk (by rw [e1]; rfl) hJ hM hI9 hI10 hb
