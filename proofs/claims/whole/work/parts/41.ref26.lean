/-! THE REFERENCE: copy -/
theorem cpE_0 {L : Nat → Nat → Int64} {D S : Nat} {P : Nat → Bool} (h : ∀ m, P m = false) : cpE L D S P = L := by
  funext a m; unfold cpE; rw [if_neg (fun z => by rw [h m] at z; exact absurd z.2 (by decide))]
theorem cpE_r {L : Nat → Nat → Int64} {D S q : Nat} {P : Nat → Bool} (h : P q = false) : cpE L D S P 779 q = L 779 q := by
  unfold cpE; rw [if_neg (fun z => by rw [h] at z; exact absurd z.2 (by decide))]
theorem nI_pred2 {m : Nat} : nI m + Int32.ofInt (-1) = nI m - nI 1 := by
  have h : ∀ a : Int32, a + Int32.ofInt (-1) = a - nI 1 := fun a => by
    rw [show (nI 1 : Int32) = 1 from rfl, show Int32.ofInt (-1) = -1 from rfl]; grind
  exact h _
abbrev isUnd (own k : Int) : Prop := k = 0 ∨ own = k ∨ (k = 1 ∧ 4 ≤ own ∧ own ≤ 6) ∨ (k = 2 ∧ 7 ≤ own)
def o_show (K F C : Nat → Int32) (G : Nat → Int32) (nF : Nat) (s f r q : Int32) : Out := if 0 ≤ s.toInt ∧ s.toInt ≤ 7 then (if f.toInt = -1 then .inl (nI 1) else if (0 ≤ f.toInt ∧ f.toInt < (nF : Int)) then (if 0 ≤ r.toInt ∧ r.toInt < (G (174 + 84 * f.toInt.toNat + 4)).toInt then (if 0 ≤ q.toInt ∧ q.toInt ≤ 2 then
    (if q.toInt = 0 ∨ (q.toInt = 1 ∧ ((K (G (174 + 84 * f.toInt.toNat + 60 + 4 * r.toInt.toNat + 0)).toInt.toNat).toInt = 3 ∨ 7 ≤ (K (G (174 + 84 * f.toInt.toNat + 60 + 4 * r.toInt.toNat + 0)).toInt.toNat).toInt)) ∨ (q.toInt = 2 ∧ 7 ≤ (K (G (174 + 84 * f.toInt.toNat + 60 + 4 * r.toInt.toNat + 0)).toInt.toNat).toInt) then .inl (nI 1) else .inr 0) else .inr 0) else .inr 0) else .inr 0) else .inr 0
/-- the tree that is shown -/
def shT (F C : Nat → Int32) (q : Int) (t : Nat) : Int32 := if q = 0 then nI t else if q = 1 then F t else C t
def I_show (I : Nat → Nat → Int32) (K F C : Nat → Int32) (s f r q : Int32) : Nat → Nat → Int32 := if f.toInt = -1 then u2 I 777 s.toInt.toNat (-1) else
  u2 (u2 I 780 s.toInt.toNat (shT F C q.toInt (I 762 (174 + 84 * f.toInt.toNat + 60 + 4 * r.toInt.toNat + 0)).toInt.toNat)) 777 s.toInt.toNat (nI 10 + K (shT F C q.toInt (I 762 (174 + 84 * f.toInt.toNat + 60 + 4 * r.toInt.toNat + 0)).toInt.toNat).toInt.toNat)
def trP (tr : Int32 → Nat → Nat → Bool) (G : Nat → Int32) (t p : Nat) : Bool := tr (G (6 + 2 * p)) (G (6 + 2 * p + 1)).toInt.toNat t
def o_says (tr : Int32 → Nat → Nat → Bool) (K F C : Nat → Int32) (G : Nat → Int32) (nP : Nat) (so tz : Nat → Int32) (s k : Int32) : Out := if (0 ≤ s.toInt ∧ s.toInt ≤ 7) ∧ 0 ≤ k.toInt ∧ k.toInt ≤ 8 then (if 0 ≤ (so s.toInt.toNat).toInt ∧ (so s.toInt.toNat).toInt ≤ 4 then .inr 1 else if (so s.toInt.toNat).toInt < 0 then .inr 2 else
  if k.toInt = 0 ∨ (so s.toInt.toNat).toInt - 10 = k.toInt ∨ (k.toInt = 1 ∧ 4 ≤ (so s.toInt.toNat).toInt - 10 ∧ (so s.toInt.toNat).toInt - 10 ≤ 6) ∨ (k.toInt = 2 ∧ 7 ≤ (so s.toInt.toNat).toInt - 10) then
   (if k.toInt = 0 then .inl (nI (cnt (trP tr G (tz s.toInt.toNat).toInt.toNat) nP)) else if k.toInt = 1 then .inl (so s.toInt.toNat - nI 14) else if k.toInt = 2 then .inl (K (C (tz s.toInt.toNat).toInt.toNat).toInt.toNat) else if k.toInt = 3 then .inl (K (F (tz s.toInt.toNat).toInt.toNat).toInt.toNat)
    else if k.toInt = 4 then .inl (nI 1) else if k.toInt = 5 then .inl (nI 10 * F (tz s.toInt.toNat).toInt.toNat + C (tz s.toInt.toNat).toInt.toNat) else if k.toInt = 6 then .inl (C (tz s.toInt.toNat).toInt.toNat - F (tz s.toInt.toNat).toInt.toNat + nI 1)
    else if k.toInt = 7 then .inl (nI (cnt (fun p => trP tr G (F (tz s.toInt.toNat).toInt.toNat).toInt.toNat p ^^ trP tr G (C (tz s.toInt.toNat).toInt.toNat).toInt.toNat p) nP)) else .inl (nI (cnt (fun p => trP tr G (F (tz s.toInt.toNat).toInt.toNat).toInt.toNat p && trP tr G (C (tz s.toInt.toNat).toInt.toNat).toInt.toNat p) nP)))
  else .inr 1) else .inr 0
/-- who is told of -/
def pJ (G : Nat → Int32) (nP : Nat) (x : Int64) : Option Nat := if 0 ≤ x.toInt ∧ x.toInt ≤ 999999 then pB G nP x.toInt32 else none
def jP (tr : Int32 → Nat → Nat → Bool) (G : Nat → Int32) (nP F : Nat) (E : Nat → Int64) (b k : Nat) : Bool := match pJ G nP (E (b + 2 * k)) with
  | none => false
  | some p => decide ((AN tr G p F).1.toInt ≠ (E (b + 2 * k + 1)).toInt)
def o_judge (tr : Int32 → Nat → Nat → Bool) (G : Nat → Int32) (nP nF : Nat) (so sz : Nat → Int32) (E : Nat → Int64) (f s n : Int32) : Out := if (0 ≤ f.toInt ∧ f.toInt < (nF : Int)) ∧ (0 ≤ s.toInt ∧ s.toInt ≤ 7) ∧ 0 ≤ n.toInt ∧ n.toInt ≤ 20 then (if 4 < (so s.toInt.toNat).toInt then .inr 1 else if (so s.toInt.toNat).toInt < 0 then .inr 2 else if (sz s.toInt.toNat).toInt < 2 * n.toInt then .inr 0 else
  (match fst1 (fun k => (pJ G nP (E (40 * s.toInt.toNat + 2 * k))).isNone) n.toInt.toNat with
   | some _ => .inr 3
   | none => .inl (vo (fst1 (jP tr G nP f.toInt.toNat E (40 * s.toInt.toNat)) n.toInt.toNat)))) else .inr 0
/-- the first from m on -/
def fstF (P : Nat → Bool) (m n : Nat) : Option Nat := fst1 (fun j => decide (m ≤ j) && P j) n
theorem fstF_0 {P : Nat → Bool} {n : Nat} : fstF P 0 n = fst1 P n := by
  unfold fstF; exact fst1_congr (fun j _ => by simp)
theorem fstF_n {P : Nat → Bool} {n : Nat} : fstF P n n = none := fst1_none (fun j hj => by simp; omega)
theorem fstF_t {P : Nat → Bool} {m n : Nat} (h : P m = true) (hm : m < n) : fstF P m n = some m := fst1_some (fun j hj => by simp; omega) (by simp [h]) hm
theorem fstF_f {P : Nat → Bool} {m n : Nat} (h : P m = false) : fstF P m n = fstF P (m + 1) n := by
  unfold fstF
  refine fst1_congr (fun j _ => ?_)
  by_cases e : j = m
  · subst e; simp [h]
  · by_cases e2 : m ≤ j
    · simp [e2, show m + 1 ≤ j by omega]
    · simp [e2, show ¬ m + 1 ≤ j by omega]
theorem l_M_copy_f {d : Nat} {I : Nat → Nat → Int32} {R : Nat → Nat → Option Nat} {L : Nat → Nat → Int64} {sh : Nat → Nat × Nat} {N : Nat} (hS : ShOK sh) (hR : RfOK R) {p q i j n : Nat} (hp8 : p < 8) (hq8 : q < 8) (hin : i + n ≤ 40) (hjn : j + n ≤ 40) (hdir : j ≤ i) {Q : Option Value → HS → Prop} (hk : Run mi_M_copy d 0 0 240 [(0, .ref 761), (1, .int (nI p)), (2, .int (nI q)), (3, .int (nI i)), (4, .int (nI j)), (5, .int (nI n))] [] (I, R, cpE L (40 * q + j) (40 * p + i) (fun m => decide (40 * q + j ≤ m ∧ m < 40 * q + j + n)), sh, N) Q) : ∀ (n_ : Nat) (k : Nat) (L1 : Nat → Nat → Int64), n - k = n_ → (L1 = cpE L (40 * q + j) (40 * p + i) (fun m => decide (40 * q + j ≤ m ∧ m < 40 * q + j + k))) → (k ≤ n) → Run mi_M_copy d 0 0 178 [(0, .ref 761), (1, .int (nI p)), (2, .int (nI q)), (3, .int (nI i)), (4, .int (nI j)), (5, .int (nI n)), (6, .int (nI k))] [] (I, R, L1, sh, N) Q := by
  intro n_
  induction n_ using Nat.strongRecOn with | ind n_ ih_ => ?_
  intro k L1 hn_ v0_ v1_
  refine r_iload (pc2 := 180) d_M_copy_178 rfl rfl ?_
  refine r_iload (pc2 := 182) d_M_copy_180 rfl rfl ?_
  refine q_icmp_ge (tgt := 240) (A := ((k : Nat) : Int)) (B := ((n : Nat) : Int)) (pc2 := 185) d_M_copy_182 rfl rfl (nI_toInt (by omega)) (nI_toInt (by omega)) (fun c1 => ?_) (fun c1 => ?_)
  · refine Run.sub (l2 := [(0, .ref 761), (1, .int (nI p)), (2, .int (nI q)), (3, .int (nI i)), (4, .int (nI j)), (5, .int (nI n))]) ⟨rfl, rfl, rfl, rfl, rfl, rfl, trivial⟩ ?_
    rw [v0_, show (fun m => decide (40 * q + j ≤ m ∧ m < 40 * q + j + k)) = (fun m => decide (40 * q + j ≤ m ∧ m < 40 * q + j + n)) from funext (fun m => decide_eq_decide.mpr (by omega))]; exact hk
  · refine r_iload_n (pc2 := 186) d_M_copy_185 rfl rfl ?_
    refine r_iload (pc2 := 188) d_M_copy_186 rfl rfl ?_
    refine q_icmp_ge (tgt := 201) (A := ((i : Nat) : Int)) (B := ((j : Nat) : Int)) (pc2 := 191) d_M_copy_188 rfl rfl (nI_toInt (by omega)) (nI_toInt (by omega)) (fun c2 => ?_) (fun c2 => ?_)
    · refine r_iload (pc2 := 203) d_M_copy_201 rfl rfl ?_
      refine r_istore (pc2 := 205) d_M_copy_203 rfl (Nat.le_of_ble_eq_true rfl) ?_
      have hrd : L1 779 (40 * p + i + (k)) = L 779 (40 * p + i + (k)) := by rw [v0_]; refine cpE_r (decide_eq_false (by omega))
      refine r_aload_n (x := some 761) (pc2 := 206) d_M_copy_205 rfl rfl ?_
      refine q_getR (x := some 779) (pc2 := 209) d_M_copy_206 rfl k_M_61 rfl (sh_761 hS) (rf_761_29 hR) ?_
      refine r_bipush (v := nI 40) (pc2 := 211) d_M_copy_209 rfl (by decide) ?_
      refine r_iload_n (pc2 := 212) d_M_copy_211 rfl rfl ?_
      refine q_imulN (pc2 := 213) d_M_copy_212 rfl ?_
      refine r_iload (pc2 := 215) d_M_copy_213 rfl rfl ?_
      refine q_iaddN (pc2 := 216) d_M_copy_215 rfl ?_
      refine r_iload (pc2 := 218) d_M_copy_216 rfl rfl ?_
      refine q_iaddN (pc2 := 219) d_M_copy_218 rfl ?_
      refine r_aload_n (x := some 761) (pc2 := 220) d_M_copy_219 rfl rfl ?_
      refine q_getR (x := some 779) (pc2 := 223) d_M_copy_220 rfl k_M_61 rfl (sh_761 hS) (rf_761_29 hR) ?_
      refine r_bipush (v := nI 40) (pc2 := 225) d_M_copy_223 rfl (by decide) ?_
      refine r_iload_n (pc2 := 226) d_M_copy_225 rfl rfl ?_
      refine q_imulN (pc2 := 227) d_M_copy_226 rfl ?_
      refine r_iload_n (pc2 := 228) d_M_copy_227 rfl rfl ?_
      refine q_iaddN (pc2 := 229) d_M_copy_228 rfl ?_
      refine r_iload (pc2 := 231) d_M_copy_229 rfl rfl ?_
      refine q_iaddN (pc2 := 232) d_M_copy_231 rfl ?_
      refine q_laload (q := 40 * p + i + k) (x := L 779 (40 * p + i + (k))) (pc2 := 233) d_M_copy_232 rfl (sh_779 hS) (nI_toInt (by omega)) (by omega) hrd ?_
      refine q_lastore (q := 40 * q + j + k) (pc2 := 234) d_M_copy_233 rfl (sh_779 hS) (nI_toInt (by omega)) (by omega) (fun L3 hL3 => ?_)
      refine q_iinc (b := 1) (pc2 := 237) d_M_copy_234 rfl rfl (by decide) (Nat.le_of_ble_eq_true rfl) ?_
      refine r_goto (tgt := 178) d_M_copy_237 rfl ?_
      refine Run.sub (l2 := [(0, .ref 761), (1, .int (nI p)), (2, .int (nI q)), (3, .int (nI i)), (4, .int (nI j)), (5, .int (nI n)), (6, .int (nI (k + 1)))]) ⟨rfl, rfl, rfl, rfl, rfl, rfl, rfl, trivial⟩ ?_
      exact ih_ (n - (k + 1)) (by omega) (k + 1) L3 rfl (by
        rw [hL3, v0_]
        refine cpE_s (x := k) (fun m => ?_)
        by_cases e : m = 40 * q + j + (k)
        · rw [decide_eq_true (show m = 40 * q + j + (k) from e), Bool.or_true]; exact decide_eq_true (by omega)
        · rw [decide_eq_false e, Bool.or_false]; exact decide_eq_decide.mpr (by omega)) (by omega)
    · exfalso; omega
theorem l_M_copy_b {d : Nat} {I : Nat → Nat → Int32} {R : Nat → Nat → Option Nat} {L : Nat → Nat → Int64} {sh : Nat → Nat × Nat} {N : Nat} (hS : ShOK sh) (hR : RfOK R) {p q i j n : Nat} (hp8 : p < 8) (hq8 : q < 8) (hin : i + n ≤ 40) (hjn : j + n ≤ 40) (hdir : i < j) {Q : Option Value → HS → Prop} (hk : Run mi_M_copy d 0 0 240 [(0, .ref 761), (1, .int (nI p)), (2, .int (nI q)), (3, .int (nI i)), (4, .int (nI j)), (5, .int (nI n))] [] (I, R, cpE L (40 * q + j) (40 * p + i) (fun m => decide (40 * q + j ≤ m ∧ m < 40 * q + j + n)), sh, N) Q) : ∀ (n_ : Nat) (k : Nat) (L1 : Nat → Nat → Int64), n - k = n_ → (L1 = cpE L (40 * q + j) (40 * p + i) (fun m => decide (40 * q + j + (n - k) ≤ m ∧ m < 40 * q + j + n))) → (k ≤ n) → Run mi_M_copy d 0 0 178 [(0, .ref 761), (1, .int (nI p)), (2, .int (nI q)), (3, .int (nI i)), (4, .int (nI j)), (5, .int (nI n)), (6, .int (nI k))] [] (I, R, L1, sh, N) Q := by
  intro n_
  induction n_ using Nat.strongRecOn with | ind n_ ih_ => ?_
  intro k L1 hn_ v0_ v1_
  refine r_iload (pc2 := 180) d_M_copy_178 rfl rfl ?_
  refine r_iload (pc2 := 182) d_M_copy_180 rfl rfl ?_
  refine q_icmp_ge (tgt := 240) (A := ((k : Nat) : Int)) (B := ((n : Nat) : Int)) (pc2 := 185) d_M_copy_182 rfl rfl (nI_toInt (by omega)) (nI_toInt (by omega)) (fun c1 => ?_) (fun c1 => ?_)
  · refine Run.sub (l2 := [(0, .ref 761), (1, .int (nI p)), (2, .int (nI q)), (3, .int (nI i)), (4, .int (nI j)), (5, .int (nI n))]) ⟨rfl, rfl, rfl, rfl, rfl, rfl, trivial⟩ ?_
    rw [v0_, show (fun m => decide (40 * q + j + (n - k) ≤ m ∧ m < 40 * q + j + n)) = (fun m => decide (40 * q + j ≤ m ∧ m < 40 * q + j + n)) from funext (fun m => decide_eq_decide.mpr (by omega))]; exact hk
  · refine r_iload_n (pc2 := 186) d_M_copy_185 rfl rfl ?_
    refine r_iload (pc2 := 188) d_M_copy_186 rfl rfl ?_
    refine q_icmp_ge (tgt := 201) (A := ((i : Nat) : Int)) (B := ((j : Nat) : Int)) (pc2 := 191) d_M_copy_188 rfl rfl (nI_toInt (by omega)) (nI_toInt (by omega)) (fun c2 => ?_) (fun c2 => ?_)
    · exfalso; omega
    · refine r_iload (pc2 := 193) d_M_copy_191 rfl rfl ?_
      refine r_iconst (v := nI 1) (pc2 := 194) d_M_copy_193 rfl (by decide) ?_
      refine q_isubN (pc2 := 195) d_M_copy_194 rfl (by omega) ?_
      refine r_iload (pc2 := 197) d_M_copy_195 rfl rfl ?_
      refine q_isubN (pc2 := 198) d_M_copy_197 rfl (by omega) ?_
      refine r_goto (tgt := 203) d_M_copy_198 rfl ?_
      refine r_istore (pc2 := 205) d_M_copy_203 rfl (Nat.le_of_ble_eq_true rfl) ?_
      have hrd : L1 779 (40 * p + i + (n - 1 - k)) = L 779 (40 * p + i + (n - 1 - k)) := by rw [v0_]; refine cpE_r (decide_eq_false (by omega))
      refine r_aload_n (x := some 761) (pc2 := 206) d_M_copy_205 rfl rfl ?_
      refine q_getR (x := some 779) (pc2 := 209) d_M_copy_206 rfl k_M_61 rfl (sh_761 hS) (rf_761_29 hR) ?_
      refine r_bipush (v := nI 40) (pc2 := 211) d_M_copy_209 rfl (by decide) ?_
      refine r_iload_n (pc2 := 212) d_M_copy_211 rfl rfl ?_
      refine q_imulN (pc2 := 213) d_M_copy_212 rfl ?_
      refine r_iload (pc2 := 215) d_M_copy_213 rfl rfl ?_
      refine q_iaddN (pc2 := 216) d_M_copy_215 rfl ?_
      refine r_iload (pc2 := 218) d_M_copy_216 rfl rfl ?_
      refine q_iaddN (pc2 := 219) d_M_copy_218 rfl ?_
      refine r_aload_n (x := some 761) (pc2 := 220) d_M_copy_219 rfl rfl ?_
      refine q_getR (x := some 779) (pc2 := 223) d_M_copy_220 rfl k_M_61 rfl (sh_761 hS) (rf_761_29 hR) ?_
      refine r_bipush (v := nI 40) (pc2 := 225) d_M_copy_223 rfl (by decide) ?_
      refine r_iload_n (pc2 := 226) d_M_copy_225 rfl rfl ?_
      refine q_imulN (pc2 := 227) d_M_copy_226 rfl ?_
      refine r_iload_n (pc2 := 228) d_M_copy_227 rfl rfl ?_
      refine q_iaddN (pc2 := 229) d_M_copy_228 rfl ?_
      refine r_iload (pc2 := 231) d_M_copy_229 rfl rfl ?_
      refine q_iaddN (pc2 := 232) d_M_copy_231 rfl ?_
      refine q_laload (q := 40 * p + i + (n - 1 - k)) (x := L 779 (40 * p + i + (n - 1 - k))) (pc2 := 233) d_M_copy_232 rfl (sh_779 hS) (nI_toInt (by omega)) (by omega) hrd ?_
      refine q_lastore (q := 40 * q + j + (n - 1 - k)) (pc2 := 234) d_M_copy_233 rfl (sh_779 hS) (nI_toInt (by omega)) (by omega) (fun L3 hL3 => ?_)
      refine q_iinc (b := 1) (pc2 := 237) d_M_copy_234 rfl rfl (by decide) (Nat.le_of_ble_eq_true rfl) ?_
      refine r_goto (tgt := 178) d_M_copy_237 rfl ?_
      refine Run.sub (l2 := [(0, .ref 761), (1, .int (nI p)), (2, .int (nI q)), (3, .int (nI i)), (4, .int (nI j)), (5, .int (nI n)), (6, .int (nI (k + 1)))]) ⟨rfl, rfl, rfl, rfl, rfl, rfl, rfl, trivial⟩ ?_
      exact ih_ (n - (k + 1)) (by omega) (k + 1) L3 rfl (by
        rw [hL3, v0_]
        refine cpE_s (x := n - 1 - k) (fun m => ?_)
        by_cases e : m = 40 * q + j + (n - 1 - k)
        · rw [decide_eq_true (show m = 40 * q + j + (n - 1 - k) from e), Bool.or_true]; exact decide_eq_true (by omega)
        · rw [decide_eq_false e, Bool.or_false]; exact decide_eq_decide.mpr (by omega)) (by omega)
theorem c_M_copy {d : Nat} {I : Nat → Nat → Int32} {R : Nat → Nat → Option Nat} {L : Nat → Nat → Int64} {sh : Nat → Nat × Nat} {N : Nat} (hS : ShOK sh) (hR : RfOK R) {kA fA cA gA nk nt : Nat} (hT : TRf R sh kA fA cA gA nk) (hTn : TNe kA fA cA gA) (hV : TV (I kA) (I fA) (I cA) nt) (hnt : nt ≤ nk) (hnk : nk ≤ 1000000) {nP nF : Nat} (hW : WFA (I 762) nP nF nt) {rk : Nat → Nat} (hrk : RK (I 762) nF rk) {p : Int32} {q : Int32} {i : Int32} {j : Int32} {n : Int32} (hWS : WSH I (I kA) nt) (hd : nt + 60 ≤ d) : Mt mi_M_copy d 0 0 [.ref 761, .int p, .int q, .int i, .int j, .int n] (I, R, L, sh, N) (RQZ I R L sh N (o_copy (I 777) (I 778) p q i j n) I (L_copy L p q i j n)) := by
  obtain ⟨hPc, hP24, hFc, hF12, hWF, hWP⟩ := id hW
  obtain ⟨hn1, hn2, hn3, hn4⟩ := id hTn
  refine Mt.of pn_M (Nat.le_of_ble_eq_true rfl) ?_
  show Run mi_M_copy d 0 0 0 [(0, .ref 761), (1, .int p), (2, .int q), (3, .int i), (4, .int j), (5, .int n)] [] (I, R, L, sh, N) _
  refine r_iload_n (pc2 := 1) d_M_copy_0 rfl rfl ?_
  refine q_calls (M2 := mi_M_isShelf) (pc2 := 4) d_M_copy_1 rfl k_M_288 cm_M_isShelf cs_M_isShelf rfl rfl (Nat.le_of_ble_eq_true rfl) (c_M_isShelf (s := p) (by omega)) (d2 := d - 1) (by omega) (Nat.le_of_eq (Nat.zero_add _)) (Nat.le_of_eq (Nat.zero_add _)) ?_
  refine q_bif_eq (tgt := 14) (pc2 := 7) d_M_copy_4 rfl rfl (fun c1 => ?_) (fun c1 => ?_)
  · refine r_aload_n (x := some 761) (pc2 := 15) d_M_copy_14 rfl rfl ?_
    refine r_bipush (v := (-32 : Int32)) (pc2 := 17) d_M_copy_15 rfl (by decide) ?_
    refine q_callv (M2 := mi_M_refused) (pc2 := 20) d_M_copy_17 rfl k_M_106 cm_M_refused cv_M_refused (sh_761 hS) (by decide) rfl rfl rfl (Nat.le_of_ble_eq_true rfl) (c_M_refused_0 (I := I) hS hR) (d2 := d - 1) (by omega) (Nat.le_of_eq (Nat.zero_add _)) (Nat.le_of_eq (Nat.zero_add _)) ?_
    obtain ⟨I2, hI2⟩ : ∃ x, x = u2 I 765 0 (I 765 0 + nI 1) := ⟨_, rfl⟩
    rw [← hI2]
    refine Run.ret (some (.int ((-32 : Int32)))) d_M_copy_20 ⟨_, rfl⟩ ?_
    exact RQZ.bad 0 (by (unfold o_copy); (try dsimp only); (try simp only [Int.toNat_natCast]); (repeat (first | rw [if_pos (by omega)] | rw [if_neg (by omega)])); (try rfl); (all_goals first | rfl | (congr 2 <;> omega) | ((repeat' split) <;> first | rfl | (exfalso; omega) | (congr 2 <;> omega) | skip))) (by decide) FrS.rf hI2
  · obtain ⟨pN, hpN, gpN, rfl, epN⟩ := nat_of' (Int.le_refl 0) c1
    obtain ⟨hsopN, szpN, hszpN, hzlpN⟩ := hWS pN (by omega)
    have hztpN : (I 778 pN).toInt = (szpN : Int) := by rw [hszpN, nI_toInt (by omega)]
    refine r_iload_n (pc2 := 8) d_M_copy_7 rfl rfl ?_
    refine q_calls (M2 := mi_M_isShelf) (pc2 := 11) d_M_copy_8 rfl k_M_288 cm_M_isShelf cs_M_isShelf rfl rfl (Nat.le_of_ble_eq_true rfl) (c_M_isShelf (s := q) (by omega)) (d2 := d - 1) (by omega) (Nat.le_of_eq (Nat.zero_add _)) (Nat.le_of_eq (Nat.zero_add _)) ?_
    refine q_bif_ne (tgt := 21) (pc2 := 14) d_M_copy_11 rfl rfl (fun c3 => ?_) (fun c3 => ?_)
    · obtain ⟨qN, hqN, gqN, rfl, eqN⟩ := nat_of' (Int.le_refl 0) c3
      obtain ⟨hsoqN, szqN, hszqN, hzlqN⟩ := hWS qN (by omega)
      have hztqN : (I 778 qN).toInt = (szqN : Int) := by rw [hszqN, nI_toInt (by omega)]
      refine r_aload_n (x := some 761) (pc2 := 22) d_M_copy_21 rfl rfl ?_
      refine q_getR (x := some 777) (pc2 := 25) d_M_copy_22 rfl k_M_55 rfl (sh_761 hS) (rf_761_27 hR) ?_
      refine r_iload_n (pc2 := 26) d_M_copy_25 rfl rfl ?_
      refine q_iaload (q := pN) (x := I 777 pN) (pc2 := 27) d_M_copy_26 rfl (sh_777 hS) (nI_toInt (by omega)) (by omega) rfl ?_
      refine r_iconst (v := nI 4) (pc2 := 28) d_M_copy_27 rfl (by decide) ?_
      refine q_icmp_gt (tgt := 74) (A := (I 777 pN).toInt) (B := (4 : Int)) (pc2 := 31) d_M_copy_28 rfl rfl (rfl) (nI_toInt (by omega)) (fun c4 => ?_) (fun c4 => ?_)
      · refine r_aload_n (x := some 761) (pc2 := 75) d_M_copy_74 rfl rfl ?_
        refine r_bipush (v := (-33 : Int32)) (pc2 := 77) d_M_copy_75 rfl (by decide) ?_
        refine q_callv (M2 := mi_M_refused) (pc2 := 80) d_M_copy_77 rfl k_M_106 cm_M_refused cv_M_refused (sh_761 hS) (by decide) rfl rfl rfl (Nat.le_of_ble_eq_true rfl) (c_M_refused_1 (I := I) hS hR) (d2 := d - 1) (by omega) (Nat.le_of_eq (Nat.zero_add _)) (Nat.le_of_eq (Nat.zero_add _)) ?_
        obtain ⟨I5, hI5⟩ : ∃ x, x = u2 I 765 1 (I 765 1 + nI 1) := ⟨_, rfl⟩
        rw [← hI5]
        refine Run.ret (some (.int ((-33 : Int32)))) d_M_copy_80 ⟨_, rfl⟩ ?_
        exact RQZ.bad 1 (by (try simp only [epN, hztpN, eqN, hztqN, Int.toNat_natCast] at c1 c3 c4); (unfold o_copy); (try dsimp only); (try simp only [epN, hztpN, eqN, hztqN, Int.toNat_natCast]); (repeat (first | rw [if_pos (by omega)] | rw [if_neg (by omega)])); (try rfl); (all_goals first | rfl | (congr 2 <;> omega) | ((repeat' split) <;> first | rfl | (exfalso; omega) | (congr 2 <;> omega) | skip))) (by decide) FrS.rf hI5
      · refine r_aload_n (x := some 761) (pc2 := 32) d_M_copy_31 rfl rfl ?_
        refine q_getR (x := some 777) (pc2 := 35) d_M_copy_32 rfl k_M_55 rfl (sh_761 hS) (rf_761_27 hR) ?_
        refine r_iload_n (pc2 := 36) d_M_copy_35 rfl rfl ?_
        refine q_iaload (q := qN) (x := I 777 qN) (pc2 := 37) d_M_copy_36 rfl (sh_777 hS) (nI_toInt (by omega)) (by omega) rfl ?_
        refine r_iconst (v := nI 4) (pc2 := 38) d_M_copy_37 rfl (by decide) ?_
        refine q_icmp_gt (tgt := 74) (A := (I 777 qN).toInt) (B := (4 : Int)) (pc2 := 41) d_M_copy_38 rfl rfl (rfl) (nI_toInt (by omega)) (fun c6 => ?_) (fun c6 => ?_)
        · refine r_aload_n (x := some 761) (pc2 := 75) d_M_copy_74 rfl rfl ?_
          refine r_bipush (v := (-33 : Int32)) (pc2 := 77) d_M_copy_75 rfl (by decide) ?_
          refine q_callv (M2 := mi_M_refused) (pc2 := 80) d_M_copy_77 rfl k_M_106 cm_M_refused cv_M_refused (sh_761 hS) (by decide) rfl rfl rfl (Nat.le_of_ble_eq_true rfl) (c_M_refused_1 (I := I) hS hR) (d2 := d - 1) (by omega) (Nat.le_of_eq (Nat.zero_add _)) (Nat.le_of_eq (Nat.zero_add _)) ?_
          obtain ⟨I7, hI7⟩ : ∃ x, x = u2 I 765 1 (I 765 1 + nI 1) := ⟨_, rfl⟩
          rw [← hI7]
          refine Run.ret (some (.int ((-33 : Int32)))) d_M_copy_80 ⟨_, rfl⟩ ?_
          exact RQZ.bad 1 (by (try simp only [epN, hztpN, eqN, hztqN, Int.toNat_natCast] at c1 c3 c4 c6); (unfold o_copy); (try dsimp only); (try simp only [epN, hztpN, eqN, hztqN, Int.toNat_natCast]); (repeat (first | rw [if_pos (by omega)] | rw [if_neg (by omega)])); (try rfl); (all_goals first | rfl | (congr 2 <;> omega) | ((repeat' split) <;> first | rfl | (exfalso; omega) | (congr 2 <;> omega) | skip))) (by decide) FrS.rf hI7
        · refine r_aload_n (x := some 761) (pc2 := 42) d_M_copy_41 rfl rfl ?_
          refine q_getR (x := some 777) (pc2 := 45) d_M_copy_42 rfl k_M_55 rfl (sh_761 hS) (rf_761_27 hR) ?_
          refine r_iload_n (pc2 := 46) d_M_copy_45 rfl rfl ?_
          refine q_iaload (q := pN) (x := I 777 pN) (pc2 := 47) d_M_copy_46 rfl (sh_777 hS) (nI_toInt (by omega)) (by omega) rfl ?_
          refine q_if_lt (tgt := 81) (A := (I 777 pN).toInt) (pc2 := 50) d_M_copy_47 rfl rfl (rfl) (fun c8 => ?_) (fun c8 => ?_)
          · refine r_aload_n (x := some 761) (pc2 := 82) d_M_copy_81 rfl rfl ?_
            refine q_getR (x := some 777) (pc2 := 85) d_M_copy_82 rfl k_M_55 rfl (sh_761 hS) (rf_761_27 hR) ?_
            refine r_iload_n (pc2 := 86) d_M_copy_85 rfl rfl ?_
            refine q_iaload (q := pN) (x := I 777 pN) (pc2 := 87) d_M_copy_86 rfl (sh_777 hS) (nI_toInt (by omega)) (by omega) rfl ?_
            refine q_if_lt (tgt := 99) (A := (I 777 pN).toInt) (pc2 := 90) d_M_copy_87 rfl rfl (rfl) (fun c9 => ?_) (fun c9 => ?_)
            · refine r_aload_n (x := some 761) (pc2 := 100) d_M_copy_99 rfl rfl ?_
              refine r_bipush (v := (-34 : Int32)) (pc2 := 102) d_M_copy_100 rfl (by decide) ?_
              refine q_callv (M2 := mi_M_refused) (pc2 := 105) d_M_copy_102 rfl k_M_106 cm_M_refused cv_M_refused (sh_761 hS) (by decide) rfl rfl rfl (Nat.le_of_ble_eq_true rfl) (c_M_refused_2 (I := I) hS hR) (d2 := d - 1) (by omega) (Nat.le_of_eq (Nat.zero_add _)) (Nat.le_of_eq (Nat.zero_add _)) ?_
              obtain ⟨I10, hI10⟩ : ∃ x, x = u2 I 765 2 (I 765 2 + nI 1) := ⟨_, rfl⟩
              rw [← hI10]
              refine Run.ret (some (.int ((-34 : Int32)))) d_M_copy_105 ⟨_, rfl⟩ ?_
              exact RQZ.bad 2 (by (try simp only [epN, hztpN, eqN, hztqN, Int.toNat_natCast] at c1 c3 c4 c6 c8 c9); (unfold o_copy); (try dsimp only); (try simp only [epN, hztpN, eqN, hztqN, Int.toNat_natCast]); (repeat (first | rw [if_pos (by omega)] | rw [if_neg (by omega)])); (try rfl); (all_goals first | rfl | (congr 2 <;> omega) | ((repeat' split) <;> first | rfl | (exfalso; omega) | (congr 2 <;> omega) | skip))) (by decide) FrS.rf hI10
            · refine r_aload_n (x := some 761) (pc2 := 91) d_M_copy_90 rfl rfl ?_
              refine q_getR (x := some 777) (pc2 := 94) d_M_copy_91 rfl k_M_55 rfl (sh_761 hS) (rf_761_27 hR) ?_
              refine r_iload_n (pc2 := 95) d_M_copy_94 rfl rfl ?_
              refine q_iaload (q := qN) (x := I 777 qN) (pc2 := 96) d_M_copy_95 rfl (sh_777 hS) (nI_toInt (by omega)) (by omega) rfl ?_
              refine q_if_ge (tgt := 106) (A := (I 777 qN).toInt) (pc2 := 99) d_M_copy_96 rfl rfl (rfl) (fun c11 => ?_) (fun c11 => ?_)
              · refine r_iload_n (pc2 := 107) d_M_copy_106 rfl rfl ?_
                refine q_if_lt (tgt := 168) (A := i.toInt) (pc2 := 110) d_M_copy_107 rfl rfl (rfl) (fun c12 => ?_) (fun c12 => ?_)
                · refine r_aload_n (x := some 761) (pc2 := 169) d_M_copy_168 rfl rfl ?_
                  refine r_bipush (v := (-32 : Int32)) (pc2 := 171) d_M_copy_169 rfl (by decide) ?_
                  refine q_callv (M2 := mi_M_refused) (pc2 := 174) d_M_copy_171 rfl k_M_106 cm_M_refused cv_M_refused (sh_761 hS) (by decide) rfl rfl rfl (Nat.le_of_ble_eq_true rfl) (c_M_refused_0 (I := I) hS hR) (d2 := d - 1) (by omega) (Nat.le_of_eq (Nat.zero_add _)) (Nat.le_of_eq (Nat.zero_add _)) ?_
                  obtain ⟨I13, hI13⟩ : ∃ x, x = u2 I 765 0 (I 765 0 + nI 1) := ⟨_, rfl⟩
                  rw [← hI13]
                  refine Run.ret (some (.int ((-32 : Int32)))) d_M_copy_174 ⟨_, rfl⟩ ?_
                  exact RQZ.bad 0 (by (try simp only [epN, hztpN, eqN, hztqN, Int.toNat_natCast] at c1 c3 c4 c6 c8 c9 c11 c12); (unfold o_copy); (try dsimp only); (try simp only [epN, hztpN, eqN, hztqN, Int.toNat_natCast]); (repeat (first | rw [if_pos (by omega)] | rw [if_neg (by omega)])); (try rfl); (all_goals first | rfl | (congr 2 <;> omega) | ((repeat' split) <;> first | rfl | (exfalso; omega) | (congr 2 <;> omega) | skip))) (by decide) FrS.rf hI13
                · refine r_iload (pc2 := 112) d_M_copy_110 rfl rfl ?_
                  refine q_if_lt (tgt := 168) (A := j.toInt) (pc2 := 115) d_M_copy_112 rfl rfl (rfl) (fun c14 => ?_) (fun c14 => ?_)
                  · refine r_aload_n (x := some 761) (pc2 := 169) d_M_copy_168 rfl rfl ?_
                    refine r_bipush (v := (-32 : Int32)) (pc2 := 171) d_M_copy_169 rfl (by decide) ?_
                    refine q_callv (M2 := mi_M_refused) (pc2 := 174) d_M_copy_171 rfl k_M_106 cm_M_refused cv_M_refused (sh_761 hS) (by decide) rfl rfl rfl (Nat.le_of_ble_eq_true rfl) (c_M_refused_0 (I := I) hS hR) (d2 := d - 1) (by omega) (Nat.le_of_eq (Nat.zero_add _)) (Nat.le_of_eq (Nat.zero_add _)) ?_
                    obtain ⟨I15, hI15⟩ : ∃ x, x = u2 I 765 0 (I 765 0 + nI 1) := ⟨_, rfl⟩
                    rw [← hI15]
                    refine Run.ret (some (.int ((-32 : Int32)))) d_M_copy_174 ⟨_, rfl⟩ ?_
                    exact RQZ.bad 0 (by (try simp only [epN, hztpN, eqN, hztqN, Int.toNat_natCast] at c1 c3 c4 c6 c8 c9 c11 c12 c14); (unfold o_copy); (try dsimp only); (try simp only [epN, hztpN, eqN, hztqN, Int.toNat_natCast]); (repeat (first | rw [if_pos (by omega)] | rw [if_neg (by omega)])); (try rfl); (all_goals first | rfl | (congr 2 <;> omega) | ((repeat' split) <;> first | rfl | (exfalso; omega) | (congr 2 <;> omega) | skip))) (by decide) FrS.rf hI15
                  · refine r_iload (pc2 := 117) d_M_copy_115 rfl rfl ?_
                    refine q_if_lt (tgt := 168) (A := n.toInt) (pc2 := 120) d_M_copy_117 rfl rfl (rfl) (fun c16 => ?_) (fun c16 => ?_)
                    · refine r_aload_n (x := some 761) (pc2 := 169) d_M_copy_168 rfl rfl ?_
                      refine r_bipush (v := (-32 : Int32)) (pc2 := 171) d_M_copy_169 rfl (by decide) ?_
                      refine q_callv (M2 := mi_M_refused) (pc2 := 174) d_M_copy_171 rfl k_M_106 cm_M_refused cv_M_refused (sh_761 hS) (by decide) rfl rfl rfl (Nat.le_of_ble_eq_true rfl) (c_M_refused_0 (I := I) hS hR) (d2 := d - 1) (by omega) (Nat.le_of_eq (Nat.zero_add _)) (Nat.le_of_eq (Nat.zero_add _)) ?_
                      obtain ⟨I17, hI17⟩ : ∃ x, x = u2 I 765 0 (I 765 0 + nI 1) := ⟨_, rfl⟩
                      rw [← hI17]
                      refine Run.ret (some (.int ((-32 : Int32)))) d_M_copy_174 ⟨_, rfl⟩ ?_
                      exact RQZ.bad 0 (by (try simp only [epN, hztpN, eqN, hztqN, Int.toNat_natCast] at c1 c3 c4 c6 c8 c9 c11 c12 c14 c16); (unfold o_copy); (try dsimp only); (try simp only [epN, hztpN, eqN, hztqN, Int.toNat_natCast]); (repeat (first | rw [if_pos (by omega)] | rw [if_neg (by omega)])); (try rfl); (all_goals first | rfl | (congr 2 <;> omega) | ((repeat' split) <;> first | rfl | (exfalso; omega) | (congr 2 <;> omega) | skip))) (by decide) FrS.rf hI17
                    · refine r_iload_n (pc2 := 121) d_M_copy_120 rfl rfl ?_
                      refine r_aload_n (x := some 761) (pc2 := 122) d_M_copy_121 rfl rfl ?_
                      refine q_getR (x := some 778) (pc2 := 125) d_M_copy_122 rfl k_M_58 rfl (sh_761 hS) (rf_761_28 hR) ?_
                      refine r_iload_n (pc2 := 126) d_M_copy_125 rfl rfl ?_
                      refine q_iaload (q := pN) (x := nI szpN) (pc2 := 127) d_M_copy_126 rfl (sh_778 hS) (nI_toInt (by omega)) (by omega) hszpN ?_
                      refine q_icmp_gt (tgt := 168) (A := i.toInt) (B := ((szpN : Nat) : Int)) (pc2 := 130) d_M_copy_127 rfl rfl (rfl) (nI_toInt (by omega)) (fun c18 => ?_) (fun c18 => ?_)
                      · refine r_aload_n (x := some 761) (pc2 := 169) d_M_copy_168 rfl rfl ?_
                        refine r_bipush (v := (-32 : Int32)) (pc2 := 171) d_M_copy_169 rfl (by decide) ?_
                        refine q_callv (M2 := mi_M_refused) (pc2 := 174) d_M_copy_171 rfl k_M_106 cm_M_refused cv_M_refused (sh_761 hS) (by decide) rfl rfl rfl (Nat.le_of_ble_eq_true rfl) (c_M_refused_0 (I := I) hS hR) (d2 := d - 1) (by omega) (Nat.le_of_eq (Nat.zero_add _)) (Nat.le_of_eq (Nat.zero_add _)) ?_
                        obtain ⟨I19, hI19⟩ : ∃ x, x = u2 I 765 0 (I 765 0 + nI 1) := ⟨_, rfl⟩
                        rw [← hI19]
                        refine Run.ret (some (.int ((-32 : Int32)))) d_M_copy_174 ⟨_, rfl⟩ ?_
                        exact RQZ.bad 0 (by (try simp only [epN, hztpN, eqN, hztqN, Int.toNat_natCast] at c1 c3 c4 c6 c8 c9 c11 c12 c14 c16 c18); (unfold o_copy); (try dsimp only); (try simp only [epN, hztpN, eqN, hztqN, Int.toNat_natCast]); (repeat (first | rw [if_pos (by omega)] | rw [if_neg (by omega)])); (try rfl); (all_goals first | rfl | (congr 2 <;> omega) | ((repeat' split) <;> first | rfl | (exfalso; omega) | (congr 2 <;> omega) | skip))) (by decide) FrS.rf hI19
                      · refine r_iload (pc2 := 132) d_M_copy_130 rfl rfl ?_
                        refine r_aload_n (x := some 761) (pc2 := 133) d_M_copy_132 rfl rfl ?_
                        refine q_getR (x := some 778) (pc2 := 136) d_M_copy_133 rfl k_M_58 rfl (sh_761 hS) (rf_761_28 hR) ?_
                        refine r_iload_n (pc2 := 137) d_M_copy_136 rfl rfl ?_
                        refine q_iaload (q := qN) (x := nI szqN) (pc2 := 138) d_M_copy_137 rfl (sh_778 hS) (nI_toInt (by omega)) (by omega) hszqN ?_
                        refine q_icmp_gt (tgt := 168) (A := j.toInt) (B := ((szqN : Nat) : Int)) (pc2 := 141) d_M_copy_138 rfl rfl (rfl) (nI_toInt (by omega)) (fun c20 => ?_) (fun c20 => ?_)
                        · refine r_aload_n (x := some 761) (pc2 := 169) d_M_copy_168 rfl rfl ?_
                          refine r_bipush (v := (-32 : Int32)) (pc2 := 171) d_M_copy_169 rfl (by decide) ?_
                          refine q_callv (M2 := mi_M_refused) (pc2 := 174) d_M_copy_171 rfl k_M_106 cm_M_refused cv_M_refused (sh_761 hS) (by decide) rfl rfl rfl (Nat.le_of_ble_eq_true rfl) (c_M_refused_0 (I := I) hS hR) (d2 := d - 1) (by omega) (Nat.le_of_eq (Nat.zero_add _)) (Nat.le_of_eq (Nat.zero_add _)) ?_
                          obtain ⟨I21, hI21⟩ : ∃ x, x = u2 I 765 0 (I 765 0 + nI 1) := ⟨_, rfl⟩
                          rw [← hI21]
                          refine Run.ret (some (.int ((-32 : Int32)))) d_M_copy_174 ⟨_, rfl⟩ ?_
                          exact RQZ.bad 0 (by (try simp only [epN, hztpN, eqN, hztqN, Int.toNat_natCast] at c1 c3 c4 c6 c8 c9 c11 c12 c14 c16 c18 c20); (unfold o_copy); (try dsimp only); (try simp only [epN, hztpN, eqN, hztqN, Int.toNat_natCast]); (repeat (first | rw [if_pos (by omega)] | rw [if_neg (by omega)])); (try rfl); (all_goals first | rfl | (congr 2 <;> omega) | ((repeat' split) <;> first | rfl | (exfalso; omega) | (congr 2 <;> omega) | skip))) (by decide) FrS.rf hI21
                        · refine r_iload (pc2 := 143) d_M_copy_141 rfl rfl ?_
                          refine r_aload_n (x := some 761) (pc2 := 144) d_M_copy_143 rfl rfl ?_
                          refine q_getR (x := some 778) (pc2 := 147) d_M_copy_144 rfl k_M_58 rfl (sh_761 hS) (rf_761_28 hR) ?_
                          refine r_iload_n (pc2 := 148) d_M_copy_147 rfl rfl ?_
                          refine q_iaload (q := pN) (x := nI szpN) (pc2 := 149) d_M_copy_148 rfl (sh_778 hS) (nI_toInt (by omega)) (by omega) hszpN ?_
                          refine r_iload_n (pc2 := 150) d_M_copy_149 rfl rfl ?_
                          refine q_isubV (pc2 := 151) d_M_copy_150 rfl (A := ((szpN : Nat) : Int)) (B := i.toInt) (nI_toInt (by omega)) (rfl) (by constructor <;> omega) (fun y22 ey22 hy22 => ?_)
                          refine q_icmp_gt (tgt := 168) (A := n.toInt) (B := ((szpN : Nat) : Int) - i.toInt) (pc2 := 154) d_M_copy_151 rfl rfl (rfl) (hy22) (fun c23 => ?_) (fun c23 => ?_)
                          · refine r_aload_n (x := some 761) (pc2 := 169) d_M_copy_168 rfl rfl ?_
                            refine r_bipush (v := (-32 : Int32)) (pc2 := 171) d_M_copy_169 rfl (by decide) ?_
                            refine q_callv (M2 := mi_M_refused) (pc2 := 174) d_M_copy_171 rfl k_M_106 cm_M_refused cv_M_refused (sh_761 hS) (by decide) rfl rfl rfl (Nat.le_of_ble_eq_true rfl) (c_M_refused_0 (I := I) hS hR) (d2 := d - 1) (by omega) (Nat.le_of_eq (Nat.zero_add _)) (Nat.le_of_eq (Nat.zero_add _)) ?_
                            obtain ⟨I24, hI24⟩ : ∃ x, x = u2 I 765 0 (I 765 0 + nI 1) := ⟨_, rfl⟩
                            rw [← hI24]
                            refine Run.ret (some (.int ((-32 : Int32)))) d_M_copy_174 ⟨_, rfl⟩ ?_
                            exact RQZ.bad 0 (by (try simp only [epN, hztpN, eqN, hztqN, Int.toNat_natCast] at c1 c3 c4 c6 c8 c9 c11 c12 c14 c16 c18 c20 c23); (unfold o_copy); (try dsimp only); (try simp only [epN, hztpN, eqN, hztqN, Int.toNat_natCast]); (repeat (first | rw [if_pos (by omega)] | rw [if_neg (by omega)])); (try rfl); (all_goals first | rfl | (congr 2 <;> omega) | ((repeat' split) <;> first | rfl | (exfalso; omega) | (congr 2 <;> omega) | skip))) (by decide) FrS.rf hI24
                          · refine r_iload (pc2 := 156) d_M_copy_154 rfl rfl ?_
                            refine r_aload_n (x := some 761) (pc2 := 157) d_M_copy_156 rfl rfl ?_
                            refine q_getR (x := some 778) (pc2 := 160) d_M_copy_157 rfl k_M_58 rfl (sh_761 hS) (rf_761_28 hR) ?_
                            refine r_iload_n (pc2 := 161) d_M_copy_160 rfl rfl ?_
                            refine q_iaload (q := qN) (x := nI szqN) (pc2 := 162) d_M_copy_161 rfl (sh_778 hS) (nI_toInt (by omega)) (by omega) hszqN ?_
                            refine r_iload (pc2 := 164) d_M_copy_162 rfl rfl ?_
                            refine q_isubV (pc2 := 165) d_M_copy_164 rfl (A := ((szqN : Nat) : Int)) (B := j.toInt) (nI_toInt (by omega)) (rfl) (by constructor <;> omega) (fun y25 ey25 hy25 => ?_)
                            refine q_icmp_le (tgt := 175) (A := n.toInt) (B := ((szqN : Nat) : Int) - j.toInt) (pc2 := 168) d_M_copy_165 rfl rfl (rfl) (hy25) (fun c26 => ?_) (fun c26 => ?_)
                            · obtain ⟨iN, hiN, rfl, eiN⟩ : ∃ a : Nat, a ≤ 40 ∧ i = nI a ∧ i.toInt = (a : Int) := ⟨i.toInt.toNat, by omega, eq_nI (by omega), by omega⟩
                              obtain ⟨jN, hjN, rfl, ejN⟩ : ∃ a : Nat, a ≤ 40 ∧ j = nI a ∧ j.toInt = (a : Int) := ⟨j.toInt.toNat, by omega, eq_nI (by omega), by omega⟩
                              obtain ⟨nN, hnN, rfl, enN⟩ : ∃ a : Nat, a ≤ 40 ∧ n = nI a ∧ n.toInt = (a : Int) := ⟨n.toInt.toNat, by omega, eq_nI (by omega), by omega⟩
                              refine r_iconst (v := nI 0) (pc2 := 176) d_M_copy_175 rfl (by decide) ?_
                              refine r_istore (pc2 := 178) d_M_copy_176 rfl (Nat.le_of_ble_eq_true rfl) ?_
                              refine Run.sub (l2 := [(0, .ref 761), (1, .int (nI pN)), (2, .int (nI qN)), (3, .int (nI iN)), (4, .int (nI jN)), (5, .int (nI nN)), (6, .int (nI 0))]) ⟨rfl, rfl, rfl, rfl, rfl, rfl, rfl, trivial⟩ ?_
                              have hend : Run mi_M_copy d 0 0 240 [(0, .ref 761), (1, .int (nI pN)), (2, .int (nI qN)), (3, .int (nI iN)), (4, .int (nI jN)), (5, .int (nI nN))] [] (I, R, cpE L (40 * qN + jN) (40 * pN + iN) (fun m => decide (40 * qN + jN ≤ m ∧ m < 40 * qN + jN + nN)), sh, N) (RQZ I R L sh N (o_copy (I 777) (I 778) (nI pN) (nI qN) (nI iN) (nI jN) (nI nN)) I (L_copy L (nI pN) (nI qN) (nI iN) (nI jN) (nI nN))) := by
                                refine r_iload (pc2 := 242) d_M_copy_240 rfl rfl ?_
                                refine Run.ret (some (.int (nI nN))) d_M_copy_242 ⟨_, rfl⟩ ?_
                                rw [show (cpE L (40 * qN + jN) (40 * pN + iN) (fun m => decide (40 * qN + jN ≤ m ∧ m < 40 * qN + jN + nN))) = L_copy L (nI pN) (nI qN) (nI iN) (nI jN) (nI nN) from by (unfold L_copy; simp only [epN, eqN, eiN, ejN, enN, Int.toNat_natCast])]
                                exact RQZ.val (by (try simp only [epN, hztpN, eqN, hztqN, eiN, ejN, enN, Int.toNat_natCast] at c1 c3 c4 c6 c8 c9 c11 c12 c14 c16 c18 c20 c23 c26); (unfold o_copy); (try dsimp only); (try simp only [epN, hztpN, eqN, hztqN, eiN, ejN, enN, Int.toNat_natCast]); (repeat (first | rw [if_pos (by omega)] | rw [if_neg (by omega)])); (try rfl); (all_goals first | rfl | (congr 2 <;> omega) | ((repeat' split) <;> first | rfl | (exfalso; omega) | (congr 2 <;> omega) | skip))) FrS.rf
                              rcases Nat.lt_or_ge iN jN with hdir | hdir
                              · exact l_M_copy_b hS hR (p := pN) (q := qN) (i := iN) (j := jN) (n := nN) (by omega) (by omega) (by omega) (by omega) hdir (hk := hend) _ 0 L rfl (cpE_0 (fun m => decide_eq_false (by omega))).symm (by omega)
                              · exact l_M_copy_f hS hR (p := pN) (q := qN) (i := iN) (j := jN) (n := nN) (by omega) (by omega) (by omega) (by omega) hdir (hk := hend) _ 0 L rfl (cpE_0 (fun m => decide_eq_false (by omega))).symm (by omega)
                            · refine r_aload_n (x := some 761) (pc2 := 169) d_M_copy_168 rfl rfl ?_
                              refine r_bipush (v := (-32 : Int32)) (pc2 := 171) d_M_copy_169 rfl (by decide) ?_
                              refine q_callv (M2 := mi_M_refused) (pc2 := 174) d_M_copy_171 rfl k_M_106 cm_M_refused cv_M_refused (sh_761 hS) (by decide) rfl rfl rfl (Nat.le_of_ble_eq_true rfl) (c_M_refused_0 (I := I) hS hR) (d2 := d - 1) (by omega) (Nat.le_of_eq (Nat.zero_add _)) (Nat.le_of_eq (Nat.zero_add _)) ?_
                              obtain ⟨I27, hI27⟩ : ∃ x, x = u2 I 765 0 (I 765 0 + nI 1) := ⟨_, rfl⟩
                              rw [← hI27]
                              refine Run.ret (some (.int ((-32 : Int32)))) d_M_copy_174 ⟨_, rfl⟩ ?_
                              exact RQZ.bad 0 (by (try simp only [epN, hztpN, eqN, hztqN, Int.toNat_natCast] at c1 c3 c4 c6 c8 c9 c11 c12 c14 c16 c18 c20 c23 c26); (unfold o_copy); (try dsimp only); (try simp only [epN, hztpN, eqN, hztqN, Int.toNat_natCast]); (repeat (first | rw [if_pos (by omega)] | rw [if_neg (by omega)])); (try rfl); (all_goals first | rfl | (congr 2 <;> omega) | ((repeat' split) <;> first | rfl | (exfalso; omega) | (congr 2 <;> omega) | skip))) (by decide) FrS.rf hI27
              · refine r_aload_n (x := some 761) (pc2 := 100) d_M_copy_99 rfl rfl ?_
                refine r_bipush (v := (-34 : Int32)) (pc2 := 102) d_M_copy_100 rfl (by decide) ?_
                refine q_callv (M2 := mi_M_refused) (pc2 := 105) d_M_copy_102 rfl k_M_106 cm_M_refused cv_M_refused (sh_761 hS) (by decide) rfl rfl rfl (Nat.le_of_ble_eq_true rfl) (c_M_refused_2 (I := I) hS hR) (d2 := d - 1) (by omega) (Nat.le_of_eq (Nat.zero_add _)) (Nat.le_of_eq (Nat.zero_add _)) ?_
                obtain ⟨I28, hI28⟩ : ∃ x, x = u2 I 765 2 (I 765 2 + nI 1) := ⟨_, rfl⟩
                rw [← hI28]
                refine Run.ret (some (.int ((-34 : Int32)))) d_M_copy_105 ⟨_, rfl⟩ ?_
                exact RQZ.bad 2 (by (try simp only [epN, hztpN, eqN, hztqN, Int.toNat_natCast] at c1 c3 c4 c6 c8 c9 c11); (unfold o_copy); (try dsimp only); (try simp only [epN, hztpN, eqN, hztqN, Int.toNat_natCast]); (repeat (first | rw [if_pos (by omega)] | rw [if_neg (by omega)])); (try rfl); (all_goals first | rfl | (congr 2 <;> omega) | ((repeat' split) <;> first | rfl | (exfalso; omega) | (congr 2 <;> omega) | skip))) (by decide) FrS.rf hI28
          · refine r_aload_n (x := some 761) (pc2 := 51) d_M_copy_50 rfl rfl ?_
            refine q_getR (x := some 777) (pc2 := 54) d_M_copy_51 rfl k_M_55 rfl (sh_761 hS) (rf_761_27 hR) ?_
            refine r_iload_n (pc2 := 55) d_M_copy_54 rfl rfl ?_
            refine q_iaload (q := qN) (x := I 777 qN) (pc2 := 56) d_M_copy_55 rfl (sh_777 hS) (nI_toInt (by omega)) (by omega) rfl ?_
            refine q_if_lt (tgt := 81) (A := (I 777 qN).toInt) (pc2 := 59) d_M_copy_56 rfl rfl (rfl) (fun c29 => ?_) (fun c29 => ?_)
            · refine r_aload_n (x := some 761) (pc2 := 82) d_M_copy_81 rfl rfl ?_
              refine q_getR (x := some 777) (pc2 := 85) d_M_copy_82 rfl k_M_55 rfl (sh_761 hS) (rf_761_27 hR) ?_
              refine r_iload_n (pc2 := 86) d_M_copy_85 rfl rfl ?_
              refine q_iaload (q := pN) (x := I 777 pN) (pc2 := 87) d_M_copy_86 rfl (sh_777 hS) (nI_toInt (by omega)) (by omega) rfl ?_
              refine q_if_lt (tgt := 99) (A := (I 777 pN).toInt) (pc2 := 90) d_M_copy_87 rfl rfl (rfl) (fun c30 => ?_) (fun c30 => ?_)
              · refine r_aload_n (x := some 761) (pc2 := 100) d_M_copy_99 rfl rfl ?_
                refine r_bipush (v := (-34 : Int32)) (pc2 := 102) d_M_copy_100 rfl (by decide) ?_
                refine q_callv (M2 := mi_M_refused) (pc2 := 105) d_M_copy_102 rfl k_M_106 cm_M_refused cv_M_refused (sh_761 hS) (by decide) rfl rfl rfl (Nat.le_of_ble_eq_true rfl) (c_M_refused_2 (I := I) hS hR) (d2 := d - 1) (by omega) (Nat.le_of_eq (Nat.zero_add _)) (Nat.le_of_eq (Nat.zero_add _)) ?_
                obtain ⟨I31, hI31⟩ : ∃ x, x = u2 I 765 2 (I 765 2 + nI 1) := ⟨_, rfl⟩
                rw [← hI31]
                refine Run.ret (some (.int ((-34 : Int32)))) d_M_copy_105 ⟨_, rfl⟩ ?_
                exact RQZ.bad 2 (by (try simp only [epN, hztpN, eqN, hztqN, Int.toNat_natCast] at c1 c3 c4 c6 c8 c29 c30); (unfold o_copy); (try dsimp only); (try simp only [epN, hztpN, eqN, hztqN, Int.toNat_natCast]); (repeat (first | rw [if_pos (by omega)] | rw [if_neg (by omega)])); (try rfl); (all_goals first | rfl | (congr 2 <;> omega) | ((repeat' split) <;> first | rfl | (exfalso; omega) | (congr 2 <;> omega) | skip))) (by decide) FrS.rf hI31
              · refine r_aload_n (x := some 761) (pc2 := 91) d_M_copy_90 rfl rfl ?_
                refine q_getR (x := some 777) (pc2 := 94) d_M_copy_91 rfl k_M_55 rfl (sh_761 hS) (rf_761_27 hR) ?_
                refine r_iload_n (pc2 := 95) d_M_copy_94 rfl rfl ?_
                refine q_iaload (q := qN) (x := I 777 qN) (pc2 := 96) d_M_copy_95 rfl (sh_777 hS) (nI_toInt (by omega)) (by omega) rfl ?_
                refine q_if_ge (tgt := 106) (A := (I 777 qN).toInt) (pc2 := 99) d_M_copy_96 rfl rfl (rfl) (fun c32 => ?_) (fun c32 => ?_)
                · refine r_iload_n (pc2 := 107) d_M_copy_106 rfl rfl ?_
                  refine q_if_lt (tgt := 168) (A := i.toInt) (pc2 := 110) d_M_copy_107 rfl rfl (rfl) (fun c33 => ?_) (fun c33 => ?_)
                  · refine r_aload_n (x := some 761) (pc2 := 169) d_M_copy_168 rfl rfl ?_
                    refine r_bipush (v := (-32 : Int32)) (pc2 := 171) d_M_copy_169 rfl (by decide) ?_
                    refine q_callv (M2 := mi_M_refused) (pc2 := 174) d_M_copy_171 rfl k_M_106 cm_M_refused cv_M_refused (sh_761 hS) (by decide) rfl rfl rfl (Nat.le_of_ble_eq_true rfl) (c_M_refused_0 (I := I) hS hR) (d2 := d - 1) (by omega) (Nat.le_of_eq (Nat.zero_add _)) (Nat.le_of_eq (Nat.zero_add _)) ?_
                    obtain ⟨I34, hI34⟩ : ∃ x, x = u2 I 765 0 (I 765 0 + nI 1) := ⟨_, rfl⟩
                    rw [← hI34]
                    refine Run.ret (some (.int ((-32 : Int32)))) d_M_copy_174 ⟨_, rfl⟩ ?_
                    exact RQZ.bad 0 (by (try simp only [epN, hztpN, eqN, hztqN, Int.toNat_natCast] at c1 c3 c4 c6 c8 c29 c30 c32 c33); (unfold o_copy); (try dsimp only); (try simp only [epN, hztpN, eqN, hztqN, Int.toNat_natCast]); (repeat (first | rw [if_pos (by omega)] | rw [if_neg (by omega)])); (try rfl); (all_goals first | rfl | (congr 2 <;> omega) | ((repeat' split) <;> first | rfl | (exfalso; omega) | (congr 2 <;> omega) | skip))) (by decide) FrS.rf hI34
                  · refine r_iload (pc2 := 112) d_M_copy_110 rfl rfl ?_
                    refine q_if_lt (tgt := 168) (A := j.toInt) (pc2 := 115) d_M_copy_112 rfl rfl (rfl) (fun c35 => ?_) (fun c35 => ?_)
                    · refine r_aload_n (x := some 761) (pc2 := 169) d_M_copy_168 rfl rfl ?_
                      refine r_bipush (v := (-32 : Int32)) (pc2 := 171) d_M_copy_169 rfl (by decide) ?_
                      refine q_callv (M2 := mi_M_refused) (pc2 := 174) d_M_copy_171 rfl k_M_106 cm_M_refused cv_M_refused (sh_761 hS) (by decide) rfl rfl rfl (Nat.le_of_ble_eq_true rfl) (c_M_refused_0 (I := I) hS hR) (d2 := d - 1) (by omega) (Nat.le_of_eq (Nat.zero_add _)) (Nat.le_of_eq (Nat.zero_add _)) ?_
                      obtain ⟨I36, hI36⟩ : ∃ x, x = u2 I 765 0 (I 765 0 + nI 1) := ⟨_, rfl⟩
                      rw [← hI36]
                      refine Run.ret (some (.int ((-32 : Int32)))) d_M_copy_174 ⟨_, rfl⟩ ?_
                      exact RQZ.bad 0 (by (try simp only [epN, hztpN, eqN, hztqN, Int.toNat_natCast] at c1 c3 c4 c6 c8 c29 c30 c32 c33 c35); (unfold o_copy); (try dsimp only); (try simp only [epN, hztpN, eqN, hztqN, Int.toNat_natCast]); (repeat (first | rw [if_pos (by omega)] | rw [if_neg (by omega)])); (try rfl); (all_goals first | rfl | (congr 2 <;> omega) | ((repeat' split) <;> first | rfl | (exfalso; omega) | (congr 2 <;> omega) | skip))) (by decide) FrS.rf hI36
                    · refine r_iload (pc2 := 117) d_M_copy_115 rfl rfl ?_
                      refine q_if_lt (tgt := 168) (A := n.toInt) (pc2 := 120) d_M_copy_117 rfl rfl (rfl) (fun c37 => ?_) (fun c37 => ?_)
                      · refine r_aload_n (x := some 761) (pc2 := 169) d_M_copy_168 rfl rfl ?_
                        refine r_bipush (v := (-32 : Int32)) (pc2 := 171) d_M_copy_169 rfl (by decide) ?_
                        refine q_callv (M2 := mi_M_refused) (pc2 := 174) d_M_copy_171 rfl k_M_106 cm_M_refused cv_M_refused (sh_761 hS) (by decide) rfl rfl rfl (Nat.le_of_ble_eq_true rfl) (c_M_refused_0 (I := I) hS hR) (d2 := d - 1) (by omega) (Nat.le_of_eq (Nat.zero_add _)) (Nat.le_of_eq (Nat.zero_add _)) ?_
                        obtain ⟨I38, hI38⟩ : ∃ x, x = u2 I 765 0 (I 765 0 + nI 1) := ⟨_, rfl⟩
                        rw [← hI38]
                        refine Run.ret (some (.int ((-32 : Int32)))) d_M_copy_174 ⟨_, rfl⟩ ?_
                        exact RQZ.bad 0 (by (try simp only [epN, hztpN, eqN, hztqN, Int.toNat_natCast] at c1 c3 c4 c6 c8 c29 c30 c32 c33 c35 c37); (unfold o_copy); (try dsimp only); (try simp only [epN, hztpN, eqN, hztqN, Int.toNat_natCast]); (repeat (first | rw [if_pos (by omega)] | rw [if_neg (by omega)])); (try rfl); (all_goals first | rfl | (congr 2 <;> omega) | ((repeat' split) <;> first | rfl | (exfalso; omega) | (congr 2 <;> omega) | skip))) (by decide) FrS.rf hI38
                      · refine r_iload_n (pc2 := 121) d_M_copy_120 rfl rfl ?_
                        refine r_aload_n (x := some 761) (pc2 := 122) d_M_copy_121 rfl rfl ?_
                        refine q_getR (x := some 778) (pc2 := 125) d_M_copy_122 rfl k_M_58 rfl (sh_761 hS) (rf_761_28 hR) ?_
                        refine r_iload_n (pc2 := 126) d_M_copy_125 rfl rfl ?_
                        refine q_iaload (q := pN) (x := nI szpN) (pc2 := 127) d_M_copy_126 rfl (sh_778 hS) (nI_toInt (by omega)) (by omega) hszpN ?_
                        refine q_icmp_gt (tgt := 168) (A := i.toInt) (B := ((szpN : Nat) : Int)) (pc2 := 130) d_M_copy_127 rfl rfl (rfl) (nI_toInt (by omega)) (fun c39 => ?_) (fun c39 => ?_)
                        · refine r_aload_n (x := some 761) (pc2 := 169) d_M_copy_168 rfl rfl ?_
                          refine r_bipush (v := (-32 : Int32)) (pc2 := 171) d_M_copy_169 rfl (by decide) ?_
                          refine q_callv (M2 := mi_M_refused) (pc2 := 174) d_M_copy_171 rfl k_M_106 cm_M_refused cv_M_refused (sh_761 hS) (by decide) rfl rfl rfl (Nat.le_of_ble_eq_true rfl) (c_M_refused_0 (I := I) hS hR) (d2 := d - 1) (by omega) (Nat.le_of_eq (Nat.zero_add _)) (Nat.le_of_eq (Nat.zero_add _)) ?_
                          obtain ⟨I40, hI40⟩ : ∃ x, x = u2 I 765 0 (I 765 0 + nI 1) := ⟨_, rfl⟩
                          rw [← hI40]
                          refine Run.ret (some (.int ((-32 : Int32)))) d_M_copy_174 ⟨_, rfl⟩ ?_
                          exact RQZ.bad 0 (by (try simp only [epN, hztpN, eqN, hztqN, Int.toNat_natCast] at c1 c3 c4 c6 c8 c29 c30 c32 c33 c35 c37 c39); (unfold o_copy); (try dsimp only); (try simp only [epN, hztpN, eqN, hztqN, Int.toNat_natCast]); (repeat (first | rw [if_pos (by omega)] | rw [if_neg (by omega)])); (try rfl); (all_goals first | rfl | (congr 2 <;> omega) | ((repeat' split) <;> first | rfl | (exfalso; omega) | (congr 2 <;> omega) | skip))) (by decide) FrS.rf hI40
                        · refine r_iload (pc2 := 132) d_M_copy_130 rfl rfl ?_
                          refine r_aload_n (x := some 761) (pc2 := 133) d_M_copy_132 rfl rfl ?_
                          refine q_getR (x := some 778) (pc2 := 136) d_M_copy_133 rfl k_M_58 rfl (sh_761 hS) (rf_761_28 hR) ?_
                          refine r_iload_n (pc2 := 137) d_M_copy_136 rfl rfl ?_
                          refine q_iaload (q := qN) (x := nI szqN) (pc2 := 138) d_M_copy_137 rfl (sh_778 hS) (nI_toInt (by omega)) (by omega) hszqN ?_
                          refine q_icmp_gt (tgt := 168) (A := j.toInt) (B := ((szqN : Nat) : Int)) (pc2 := 141) d_M_copy_138 rfl rfl (rfl) (nI_toInt (by omega)) (fun c41 => ?_) (fun c41 => ?_)
                          · refine r_aload_n (x := some 761) (pc2 := 169) d_M_copy_168 rfl rfl ?_
                            refine r_bipush (v := (-32 : Int32)) (pc2 := 171) d_M_copy_169 rfl (by decide) ?_
                            refine q_callv (M2 := mi_M_refused) (pc2 := 174) d_M_copy_171 rfl k_M_106 cm_M_refused cv_M_refused (sh_761 hS) (by decide) rfl rfl rfl (Nat.le_of_ble_eq_true rfl) (c_M_refused_0 (I := I) hS hR) (d2 := d - 1) (by omega) (Nat.le_of_eq (Nat.zero_add _)) (Nat.le_of_eq (Nat.zero_add _)) ?_
                            obtain ⟨I42, hI42⟩ : ∃ x, x = u2 I 765 0 (I 765 0 + nI 1) := ⟨_, rfl⟩
                            rw [← hI42]
                            refine Run.ret (some (.int ((-32 : Int32)))) d_M_copy_174 ⟨_, rfl⟩ ?_
                            exact RQZ.bad 0 (by (try simp only [epN, hztpN, eqN, hztqN, Int.toNat_natCast] at c1 c3 c4 c6 c8 c29 c30 c32 c33 c35 c37 c39 c41); (unfold o_copy); (try dsimp only); (try simp only [epN, hztpN, eqN, hztqN, Int.toNat_natCast]); (repeat (first | rw [if_pos (by omega)] | rw [if_neg (by omega)])); (try rfl); (all_goals first | rfl | (congr 2 <;> omega) | ((repeat' split) <;> first | rfl | (exfalso; omega) | (congr 2 <;> omega) | skip))) (by decide) FrS.rf hI42
                          · refine r_iload (pc2 := 143) d_M_copy_141 rfl rfl ?_
                            refine r_aload_n (x := some 761) (pc2 := 144) d_M_copy_143 rfl rfl ?_
                            refine q_getR (x := some 778) (pc2 := 147) d_M_copy_144 rfl k_M_58 rfl (sh_761 hS) (rf_761_28 hR) ?_
                            refine r_iload_n (pc2 := 148) d_M_copy_147 rfl rfl ?_
                            refine q_iaload (q := pN) (x := nI szpN) (pc2 := 149) d_M_copy_148 rfl (sh_778 hS) (nI_toInt (by omega)) (by omega) hszpN ?_
                            refine r_iload_n (pc2 := 150) d_M_copy_149 rfl rfl ?_
                            refine q_isubV (pc2 := 151) d_M_copy_150 rfl (A := ((szpN : Nat) : Int)) (B := i.toInt) (nI_toInt (by omega)) (rfl) (by constructor <;> omega) (fun y43 ey43 hy43 => ?_)
                            refine q_icmp_gt (tgt := 168) (A := n.toInt) (B := ((szpN : Nat) : Int) - i.toInt) (pc2 := 154) d_M_copy_151 rfl rfl (rfl) (hy43) (fun c44 => ?_) (fun c44 => ?_)
                            · refine r_aload_n (x := some 761) (pc2 := 169) d_M_copy_168 rfl rfl ?_
                              refine r_bipush (v := (-32 : Int32)) (pc2 := 171) d_M_copy_169 rfl (by decide) ?_
                              refine q_callv (M2 := mi_M_refused) (pc2 := 174) d_M_copy_171 rfl k_M_106 cm_M_refused cv_M_refused (sh_761 hS) (by decide) rfl rfl rfl (Nat.le_of_ble_eq_true rfl) (c_M_refused_0 (I := I) hS hR) (d2 := d - 1) (by omega) (Nat.le_of_eq (Nat.zero_add _)) (Nat.le_of_eq (Nat.zero_add _)) ?_
                              obtain ⟨I45, hI45⟩ : ∃ x, x = u2 I 765 0 (I 765 0 + nI 1) := ⟨_, rfl⟩
                              rw [← hI45]
                              refine Run.ret (some (.int ((-32 : Int32)))) d_M_copy_174 ⟨_, rfl⟩ ?_
                              exact RQZ.bad 0 (by (try simp only [epN, hztpN, eqN, hztqN, Int.toNat_natCast] at c1 c3 c4 c6 c8 c29 c30 c32 c33 c35 c37 c39 c41 c44); (unfold o_copy); (try dsimp only); (try simp only [epN, hztpN, eqN, hztqN, Int.toNat_natCast]); (repeat (first | rw [if_pos (by omega)] | rw [if_neg (by omega)])); (try rfl); (all_goals first | rfl | (congr 2 <;> omega) | ((repeat' split) <;> first | rfl | (exfalso; omega) | (congr 2 <;> omega) | skip))) (by decide) FrS.rf hI45
                            · refine r_iload (pc2 := 156) d_M_copy_154 rfl rfl ?_
                              refine r_aload_n (x := some 761) (pc2 := 157) d_M_copy_156 rfl rfl ?_
                              refine q_getR (x := some 778) (pc2 := 160) d_M_copy_157 rfl k_M_58 rfl (sh_761 hS) (rf_761_28 hR) ?_
                              refine r_iload_n (pc2 := 161) d_M_copy_160 rfl rfl ?_
                              refine q_iaload (q := qN) (x := nI szqN) (pc2 := 162) d_M_copy_161 rfl (sh_778 hS) (nI_toInt (by omega)) (by omega) hszqN ?_
                              refine r_iload (pc2 := 164) d_M_copy_162 rfl rfl ?_
                              refine q_isubV (pc2 := 165) d_M_copy_164 rfl (A := ((szqN : Nat) : Int)) (B := j.toInt) (nI_toInt (by omega)) (rfl) (by constructor <;> omega) (fun y46 ey46 hy46 => ?_)
                              refine q_icmp_le (tgt := 175) (A := n.toInt) (B := ((szqN : Nat) : Int) - j.toInt) (pc2 := 168) d_M_copy_165 rfl rfl (rfl) (hy46) (fun c47 => ?_) (fun c47 => ?_)
                              · obtain ⟨iN, hiN, rfl, eiN⟩ : ∃ a : Nat, a ≤ 40 ∧ i = nI a ∧ i.toInt = (a : Int) := ⟨i.toInt.toNat, by omega, eq_nI (by omega), by omega⟩
                                obtain ⟨jN, hjN, rfl, ejN⟩ : ∃ a : Nat, a ≤ 40 ∧ j = nI a ∧ j.toInt = (a : Int) := ⟨j.toInt.toNat, by omega, eq_nI (by omega), by omega⟩
                                obtain ⟨nN, hnN, rfl, enN⟩ : ∃ a : Nat, a ≤ 40 ∧ n = nI a ∧ n.toInt = (a : Int) := ⟨n.toInt.toNat, by omega, eq_nI (by omega), by omega⟩
                                refine r_iconst (v := nI 0) (pc2 := 176) d_M_copy_175 rfl (by decide) ?_
                                refine r_istore (pc2 := 178) d_M_copy_176 rfl (Nat.le_of_ble_eq_true rfl) ?_
                                refine Run.sub (l2 := [(0, .ref 761), (1, .int (nI pN)), (2, .int (nI qN)), (3, .int (nI iN)), (4, .int (nI jN)), (5, .int (nI nN)), (6, .int (nI 0))]) ⟨rfl, rfl, rfl, rfl, rfl, rfl, rfl, trivial⟩ ?_
                                have hend : Run mi_M_copy d 0 0 240 [(0, .ref 761), (1, .int (nI pN)), (2, .int (nI qN)), (3, .int (nI iN)), (4, .int (nI jN)), (5, .int (nI nN))] [] (I, R, cpE L (40 * qN + jN) (40 * pN + iN) (fun m => decide (40 * qN + jN ≤ m ∧ m < 40 * qN + jN + nN)), sh, N) (RQZ I R L sh N (o_copy (I 777) (I 778) (nI pN) (nI qN) (nI iN) (nI jN) (nI nN)) I (L_copy L (nI pN) (nI qN) (nI iN) (nI jN) (nI nN))) := by
                                  refine r_iload (pc2 := 242) d_M_copy_240 rfl rfl ?_
                                  refine Run.ret (some (.int (nI nN))) d_M_copy_242 ⟨_, rfl⟩ ?_
                                  rw [show (cpE L (40 * qN + jN) (40 * pN + iN) (fun m => decide (40 * qN + jN ≤ m ∧ m < 40 * qN + jN + nN))) = L_copy L (nI pN) (nI qN) (nI iN) (nI jN) (nI nN) from by (unfold L_copy; simp only [epN, eqN, eiN, ejN, enN, Int.toNat_natCast])]
                                  exact RQZ.val (by (try simp only [epN, hztpN, eqN, hztqN, eiN, ejN, enN, Int.toNat_natCast] at c1 c3 c4 c6 c8 c29 c30 c32 c33 c35 c37 c39 c41 c44 c47); (unfold o_copy); (try dsimp only); (try simp only [epN, hztpN, eqN, hztqN, eiN, ejN, enN, Int.toNat_natCast]); (repeat (first | rw [if_pos (by omega)] | rw [if_neg (by omega)])); (try rfl); (all_goals first | rfl | (congr 2 <;> omega) | ((repeat' split) <;> first | rfl | (exfalso; omega) | (congr 2 <;> omega) | skip))) FrS.rf
                                rcases Nat.lt_or_ge iN jN with hdir | hdir
                                · exact l_M_copy_b hS hR (p := pN) (q := qN) (i := iN) (j := jN) (n := nN) (by omega) (by omega) (by omega) (by omega) hdir (hk := hend) _ 0 L rfl (cpE_0 (fun m => decide_eq_false (by omega))).symm (by omega)
                                · exact l_M_copy_f hS hR (p := pN) (q := qN) (i := iN) (j := jN) (n := nN) (by omega) (by omega) (by omega) (by omega) hdir (hk := hend) _ 0 L rfl (cpE_0 (fun m => decide_eq_false (by omega))).symm (by omega)
                              · refine r_aload_n (x := some 761) (pc2 := 169) d_M_copy_168 rfl rfl ?_
                                refine r_bipush (v := (-32 : Int32)) (pc2 := 171) d_M_copy_169 rfl (by decide) ?_
                                refine q_callv (M2 := mi_M_refused) (pc2 := 174) d_M_copy_171 rfl k_M_106 cm_M_refused cv_M_refused (sh_761 hS) (by decide) rfl rfl rfl (Nat.le_of_ble_eq_true rfl) (c_M_refused_0 (I := I) hS hR) (d2 := d - 1) (by omega) (Nat.le_of_eq (Nat.zero_add _)) (Nat.le_of_eq (Nat.zero_add _)) ?_
                                obtain ⟨I48, hI48⟩ : ∃ x, x = u2 I 765 0 (I 765 0 + nI 1) := ⟨_, rfl⟩
                                rw [← hI48]
                                refine Run.ret (some (.int ((-32 : Int32)))) d_M_copy_174 ⟨_, rfl⟩ ?_
                                exact RQZ.bad 0 (by (try simp only [epN, hztpN, eqN, hztqN, Int.toNat_natCast] at c1 c3 c4 c6 c8 c29 c30 c32 c33 c35 c37 c39 c41 c44 c47); (unfold o_copy); (try dsimp only); (try simp only [epN, hztpN, eqN, hztqN, Int.toNat_natCast]); (repeat (first | rw [if_pos (by omega)] | rw [if_neg (by omega)])); (try rfl); (all_goals first | rfl | (congr 2 <;> omega) | ((repeat' split) <;> first | rfl | (exfalso; omega) | (congr 2 <;> omega) | skip))) (by decide) FrS.rf hI48
                · refine r_aload_n (x := some 761) (pc2 := 100) d_M_copy_99 rfl rfl ?_
                  refine r_bipush (v := (-34 : Int32)) (pc2 := 102) d_M_copy_100 rfl (by decide) ?_
                  refine q_callv (M2 := mi_M_refused) (pc2 := 105) d_M_copy_102 rfl k_M_106 cm_M_refused cv_M_refused (sh_761 hS) (by decide) rfl rfl rfl (Nat.le_of_ble_eq_true rfl) (c_M_refused_2 (I := I) hS hR) (d2 := d - 1) (by omega) (Nat.le_of_eq (Nat.zero_add _)) (Nat.le_of_eq (Nat.zero_add _)) ?_
                  obtain ⟨I49, hI49⟩ : ∃ x, x = u2 I 765 2 (I 765 2 + nI 1) := ⟨_, rfl⟩
                  rw [← hI49]
                  refine Run.ret (some (.int ((-34 : Int32)))) d_M_copy_105 ⟨_, rfl⟩ ?_
                  exact RQZ.bad 2 (by (try simp only [epN, hztpN, eqN, hztqN, Int.toNat_natCast] at c1 c3 c4 c6 c8 c29 c30 c32); (unfold o_copy); (try dsimp only); (try simp only [epN, hztpN, eqN, hztqN, Int.toNat_natCast]); (repeat (first | rw [if_pos (by omega)] | rw [if_neg (by omega)])); (try rfl); (all_goals first | rfl | (congr 2 <;> omega) | ((repeat' split) <;> first | rfl | (exfalso; omega) | (congr 2 <;> omega) | skip))) (by decide) FrS.rf hI49
            · refine r_aload_n (x := some 761) (pc2 := 60) d_M_copy_59 rfl rfl ?_
              refine q_getR (x := some 777) (pc2 := 63) d_M_copy_60 rfl k_M_55 rfl (sh_761 hS) (rf_761_27 hR) ?_
              refine r_iload_n (pc2 := 64) d_M_copy_63 rfl rfl ?_
              refine q_iaload (q := pN) (x := I 777 pN) (pc2 := 65) d_M_copy_64 rfl (sh_777 hS) (nI_toInt (by omega)) (by omega) rfl ?_
              refine r_aload_n (x := some 761) (pc2 := 66) d_M_copy_65 rfl rfl ?_
              refine q_getR (x := some 777) (pc2 := 69) d_M_copy_66 rfl k_M_55 rfl (sh_761 hS) (rf_761_27 hR) ?_
              refine r_iload_n (pc2 := 70) d_M_copy_69 rfl rfl ?_
              refine q_iaload (q := qN) (x := I 777 qN) (pc2 := 71) d_M_copy_70 rfl (sh_777 hS) (nI_toInt (by omega)) (by omega) rfl ?_
              refine q_icmp_eq (tgt := 81) (A := (I 777 pN).toInt) (B := (I 777 qN).toInt) (pc2 := 74) d_M_copy_71 rfl rfl (rfl) (rfl) (fun c50 => ?_) (fun c50 => ?_)
              · refine r_aload_n (x := some 761) (pc2 := 82) d_M_copy_81 rfl rfl ?_
                refine q_getR (x := some 777) (pc2 := 85) d_M_copy_82 rfl k_M_55 rfl (sh_761 hS) (rf_761_27 hR) ?_
                refine r_iload_n (pc2 := 86) d_M_copy_85 rfl rfl ?_
                refine q_iaload (q := pN) (x := I 777 pN) (pc2 := 87) d_M_copy_86 rfl (sh_777 hS) (nI_toInt (by omega)) (by omega) rfl ?_
                refine q_if_lt (tgt := 99) (A := (I 777 pN).toInt) (pc2 := 90) d_M_copy_87 rfl rfl (rfl) (fun c51 => ?_) (fun c51 => ?_)
                · refine r_aload_n (x := some 761) (pc2 := 100) d_M_copy_99 rfl rfl ?_
                  refine r_bipush (v := (-34 : Int32)) (pc2 := 102) d_M_copy_100 rfl (by decide) ?_
                  refine q_callv (M2 := mi_M_refused) (pc2 := 105) d_M_copy_102 rfl k_M_106 cm_M_refused cv_M_refused (sh_761 hS) (by decide) rfl rfl rfl (Nat.le_of_ble_eq_true rfl) (c_M_refused_2 (I := I) hS hR) (d2 := d - 1) (by omega) (Nat.le_of_eq (Nat.zero_add _)) (Nat.le_of_eq (Nat.zero_add _)) ?_
                  obtain ⟨I52, hI52⟩ : ∃ x, x = u2 I 765 2 (I 765 2 + nI 1) := ⟨_, rfl⟩
                  rw [← hI52]
                  refine Run.ret (some (.int ((-34 : Int32)))) d_M_copy_105 ⟨_, rfl⟩ ?_
                  exact RQZ.bad 2 (by (try simp only [epN, hztpN, eqN, hztqN, Int.toNat_natCast] at c1 c3 c4 c6 c8 c29 c50 c51); (unfold o_copy); (try dsimp only); (try simp only [epN, hztpN, eqN, hztqN, Int.toNat_natCast]); (repeat (first | rw [if_pos (by omega)] | rw [if_neg (by omega)])); (try rfl); (all_goals first | rfl | (congr 2 <;> omega) | ((repeat' split) <;> first | rfl | (exfalso; omega) | (congr 2 <;> omega) | skip))) (by decide) FrS.rf hI52
                · refine r_aload_n (x := some 761) (pc2 := 91) d_M_copy_90 rfl rfl ?_
                  refine q_getR (x := some 777) (pc2 := 94) d_M_copy_91 rfl k_M_55 rfl (sh_761 hS) (rf_761_27 hR) ?_
                  refine r_iload_n (pc2 := 95) d_M_copy_94 rfl rfl ?_
                  refine q_iaload (q := qN) (x := I 777 qN) (pc2 := 96) d_M_copy_95 rfl (sh_777 hS) (nI_toInt (by omega)) (by omega) rfl ?_
                  refine q_if_ge (tgt := 106) (A := (I 777 qN).toInt) (pc2 := 99) d_M_copy_96 rfl rfl (rfl) (fun c53 => ?_) (fun c53 => ?_)
                  · refine r_iload_n (pc2 := 107) d_M_copy_106 rfl rfl ?_
                    refine q_if_lt (tgt := 168) (A := i.toInt) (pc2 := 110) d_M_copy_107 rfl rfl (rfl) (fun c54 => ?_) (fun c54 => ?_)
                    · refine r_aload_n (x := some 761) (pc2 := 169) d_M_copy_168 rfl rfl ?_
                      refine r_bipush (v := (-32 : Int32)) (pc2 := 171) d_M_copy_169 rfl (by decide) ?_
                      refine q_callv (M2 := mi_M_refused) (pc2 := 174) d_M_copy_171 rfl k_M_106 cm_M_refused cv_M_refused (sh_761 hS) (by decide) rfl rfl rfl (Nat.le_of_ble_eq_true rfl) (c_M_refused_0 (I := I) hS hR) (d2 := d - 1) (by omega) (Nat.le_of_eq (Nat.zero_add _)) (Nat.le_of_eq (Nat.zero_add _)) ?_
                      obtain ⟨I55, hI55⟩ : ∃ x, x = u2 I 765 0 (I 765 0 + nI 1) := ⟨_, rfl⟩
                      rw [← hI55]
                      refine Run.ret (some (.int ((-32 : Int32)))) d_M_copy_174 ⟨_, rfl⟩ ?_
                      exact RQZ.bad 0 (by (try simp only [epN, hztpN, eqN, hztqN, Int.toNat_natCast] at c1 c3 c4 c6 c8 c29 c50 c51 c53 c54); (unfold o_copy); (try dsimp only); (try simp only [epN, hztpN, eqN, hztqN, Int.toNat_natCast]); (repeat (first | rw [if_pos (by omega)] | rw [if_neg (by omega)])); (try rfl); (all_goals first | rfl | (congr 2 <;> omega) | ((repeat' split) <;> first | rfl | (exfalso; omega) | (congr 2 <;> omega) | skip))) (by decide) FrS.rf hI55
                    · refine r_iload (pc2 := 112) d_M_copy_110 rfl rfl ?_
                      refine q_if_lt (tgt := 168) (A := j.toInt) (pc2 := 115) d_M_copy_112 rfl rfl (rfl) (fun c56 => ?_) (fun c56 => ?_)
                      · refine r_aload_n (x := some 761) (pc2 := 169) d_M_copy_168 rfl rfl ?_
                        refine r_bipush (v := (-32 : Int32)) (pc2 := 171) d_M_copy_169 rfl (by decide) ?_
                        refine q_callv (M2 := mi_M_refused) (pc2 := 174) d_M_copy_171 rfl k_M_106 cm_M_refused cv_M_refused (sh_761 hS) (by decide) rfl rfl rfl (Nat.le_of_ble_eq_true rfl) (c_M_refused_0 (I := I) hS hR) (d2 := d - 1) (by omega) (Nat.le_of_eq (Nat.zero_add _)) (Nat.le_of_eq (Nat.zero_add _)) ?_
                        obtain ⟨I57, hI57⟩ : ∃ x, x = u2 I 765 0 (I 765 0 + nI 1) := ⟨_, rfl⟩
                        rw [← hI57]
                        refine Run.ret (some (.int ((-32 : Int32)))) d_M_copy_174 ⟨_, rfl⟩ ?_
                        exact RQZ.bad 0 (by (try simp only [epN, hztpN, eqN, hztqN, Int.toNat_natCast] at c1 c3 c4 c6 c8 c29 c50 c51 c53 c54 c56); (unfold o_copy); (try dsimp only); (try simp only [epN, hztpN, eqN, hztqN, Int.toNat_natCast]); (repeat (first | rw [if_pos (by omega)] | rw [if_neg (by omega)])); (try rfl); (all_goals first | rfl | (congr 2 <;> omega) | ((repeat' split) <;> first | rfl | (exfalso; omega) | (congr 2 <;> omega) | skip))) (by decide) FrS.rf hI57
                      · refine r_iload (pc2 := 117) d_M_copy_115 rfl rfl ?_
                        refine q_if_lt (tgt := 168) (A := n.toInt) (pc2 := 120) d_M_copy_117 rfl rfl (rfl) (fun c58 => ?_) (fun c58 => ?_)
                        · refine r_aload_n (x := some 761) (pc2 := 169) d_M_copy_168 rfl rfl ?_
                          refine r_bipush (v := (-32 : Int32)) (pc2 := 171) d_M_copy_169 rfl (by decide) ?_
                          refine q_callv (M2 := mi_M_refused) (pc2 := 174) d_M_copy_171 rfl k_M_106 cm_M_refused cv_M_refused (sh_761 hS) (by decide) rfl rfl rfl (Nat.le_of_ble_eq_true rfl) (c_M_refused_0 (I := I) hS hR) (d2 := d - 1) (by omega) (Nat.le_of_eq (Nat.zero_add _)) (Nat.le_of_eq (Nat.zero_add _)) ?_
                          obtain ⟨I59, hI59⟩ : ∃ x, x = u2 I 765 0 (I 765 0 + nI 1) := ⟨_, rfl⟩
                          rw [← hI59]
                          refine Run.ret (some (.int ((-32 : Int32)))) d_M_copy_174 ⟨_, rfl⟩ ?_
                          exact RQZ.bad 0 (by (try simp only [epN, hztpN, eqN, hztqN, Int.toNat_natCast] at c1 c3 c4 c6 c8 c29 c50 c51 c53 c54 c56 c58); (unfold o_copy); (try dsimp only); (try simp only [epN, hztpN, eqN, hztqN, Int.toNat_natCast]); (repeat (first | rw [if_pos (by omega)] | rw [if_neg (by omega)])); (try rfl); (all_goals first | rfl | (congr 2 <;> omega) | ((repeat' split) <;> first | rfl | (exfalso; omega) | (congr 2 <;> omega) | skip))) (by decide) FrS.rf hI59
                        · refine r_iload_n (pc2 := 121) d_M_copy_120 rfl rfl ?_
                          refine r_aload_n (x := some 761) (pc2 := 122) d_M_copy_121 rfl rfl ?_
                          refine q_getR (x := some 778) (pc2 := 125) d_M_copy_122 rfl k_M_58 rfl (sh_761 hS) (rf_761_28 hR) ?_
                          refine r_iload_n (pc2 := 126) d_M_copy_125 rfl rfl ?_
                          refine q_iaload (q := pN) (x := nI szpN) (pc2 := 127) d_M_copy_126 rfl (sh_778 hS) (nI_toInt (by omega)) (by omega) hszpN ?_
                          refine q_icmp_gt (tgt := 168) (A := i.toInt) (B := ((szpN : Nat) : Int)) (pc2 := 130) d_M_copy_127 rfl rfl (rfl) (nI_toInt (by omega)) (fun c60 => ?_) (fun c60 => ?_)
                          · refine r_aload_n (x := some 761) (pc2 := 169) d_M_copy_168 rfl rfl ?_
                            refine r_bipush (v := (-32 : Int32)) (pc2 := 171) d_M_copy_169 rfl (by decide) ?_
                            refine q_callv (M2 := mi_M_refused) (pc2 := 174) d_M_copy_171 rfl k_M_106 cm_M_refused cv_M_refused (sh_761 hS) (by decide) rfl rfl rfl (Nat.le_of_ble_eq_true rfl) (c_M_refused_0 (I := I) hS hR) (d2 := d - 1) (by omega) (Nat.le_of_eq (Nat.zero_add _)) (Nat.le_of_eq (Nat.zero_add _)) ?_
                            obtain ⟨I61, hI61⟩ : ∃ x, x = u2 I 765 0 (I 765 0 + nI 1) := ⟨_, rfl⟩
                            rw [← hI61]
                            refine Run.ret (some (.int ((-32 : Int32)))) d_M_copy_174 ⟨_, rfl⟩ ?_
                            exact RQZ.bad 0 (by (try simp only [epN, hztpN, eqN, hztqN, Int.toNat_natCast] at c1 c3 c4 c6 c8 c29 c50 c51 c53 c54 c56 c58 c60); (unfold o_copy); (try dsimp only); (try simp only [epN, hztpN, eqN, hztqN, Int.toNat_natCast]); (repeat (first | rw [if_pos (by omega)] | rw [if_neg (by omega)])); (try rfl); (all_goals first | rfl | (congr 2 <;> omega) | ((repeat' split) <;> first | rfl | (exfalso; omega) | (congr 2 <;> omega) | skip))) (by decide) FrS.rf hI61
                          · refine r_iload (pc2 := 132) d_M_copy_130 rfl rfl ?_
                            refine r_aload_n (x := some 761) (pc2 := 133) d_M_copy_132 rfl rfl ?_
                            refine q_getR (x := some 778) (pc2 := 136) d_M_copy_133 rfl k_M_58 rfl (sh_761 hS) (rf_761_28 hR) ?_
                            refine r_iload_n (pc2 := 137) d_M_copy_136 rfl rfl ?_
                            refine q_iaload (q := qN) (x := nI szqN) (pc2 := 138) d_M_copy_137 rfl (sh_778 hS) (nI_toInt (by omega)) (by omega) hszqN ?_
                            refine q_icmp_gt (tgt := 168) (A := j.toInt) (B := ((szqN : Nat) : Int)) (pc2 := 141) d_M_copy_138 rfl rfl (rfl) (nI_toInt (by omega)) (fun c62 => ?_) (fun c62 => ?_)
                            · refine r_aload_n (x := some 761) (pc2 := 169) d_M_copy_168 rfl rfl ?_
                              refine r_bipush (v := (-32 : Int32)) (pc2 := 171) d_M_copy_169 rfl (by decide) ?_
                              refine q_callv (M2 := mi_M_refused) (pc2 := 174) d_M_copy_171 rfl k_M_106 cm_M_refused cv_M_refused (sh_761 hS) (by decide) rfl rfl rfl (Nat.le_of_ble_eq_true rfl) (c_M_refused_0 (I := I) hS hR) (d2 := d - 1) (by omega) (Nat.le_of_eq (Nat.zero_add _)) (Nat.le_of_eq (Nat.zero_add _)) ?_
                              obtain ⟨I63, hI63⟩ : ∃ x, x = u2 I 765 0 (I 765 0 + nI 1) := ⟨_, rfl⟩
                              rw [← hI63]
                              refine Run.ret (some (.int ((-32 : Int32)))) d_M_copy_174 ⟨_, rfl⟩ ?_
                              exact RQZ.bad 0 (by (try simp only [epN, hztpN, eqN, hztqN, Int.toNat_natCast] at c1 c3 c4 c6 c8 c29 c50 c51 c53 c54 c56 c58 c60 c62); (unfold o_copy); (try dsimp only); (try simp only [epN, hztpN, eqN, hztqN, Int.toNat_natCast]); (repeat (first | rw [if_pos (by omega)] | rw [if_neg (by omega)])); (try rfl); (all_goals first | rfl | (congr 2 <;> omega) | ((repeat' split) <;> first | rfl | (exfalso; omega) | (congr 2 <;> omega) | skip))) (by decide) FrS.rf hI63
                            · refine r_iload (pc2 := 143) d_M_copy_141 rfl rfl ?_
                              refine r_aload_n (x := some 761) (pc2 := 144) d_M_copy_143 rfl rfl ?_
                              refine q_getR (x := some 778) (pc2 := 147) d_M_copy_144 rfl k_M_58 rfl (sh_761 hS) (rf_761_28 hR) ?_
                              refine r_iload_n (pc2 := 148) d_M_copy_147 rfl rfl ?_
                              refine q_iaload (q := pN) (x := nI szpN) (pc2 := 149) d_M_copy_148 rfl (sh_778 hS) (nI_toInt (by omega)) (by omega) hszpN ?_
                              refine r_iload_n (pc2 := 150) d_M_copy_149 rfl rfl ?_
                              refine q_isubV (pc2 := 151) d_M_copy_150 rfl (A := ((szpN : Nat) : Int)) (B := i.toInt) (nI_toInt (by omega)) (rfl) (by constructor <;> omega) (fun y64 ey64 hy64 => ?_)
                              refine q_icmp_gt (tgt := 168) (A := n.toInt) (B := ((szpN : Nat) : Int) - i.toInt) (pc2 := 154) d_M_copy_151 rfl rfl (rfl) (hy64) (fun c65 => ?_) (fun c65 => ?_)
                              · refine r_aload_n (x := some 761) (pc2 := 169) d_M_copy_168 rfl rfl ?_
                                refine r_bipush (v := (-32 : Int32)) (pc2 := 171) d_M_copy_169 rfl (by decide) ?_
                                refine q_callv (M2 := mi_M_refused) (pc2 := 174) d_M_copy_171 rfl k_M_106 cm_M_refused cv_M_refused (sh_761 hS) (by decide) rfl rfl rfl (Nat.le_of_ble_eq_true rfl) (c_M_refused_0 (I := I) hS hR) (d2 := d - 1) (by omega) (Nat.le_of_eq (Nat.zero_add _)) (Nat.le_of_eq (Nat.zero_add _)) ?_
                                obtain ⟨I66, hI66⟩ : ∃ x, x = u2 I 765 0 (I 765 0 + nI 1) := ⟨_, rfl⟩
                                rw [← hI66]
                                refine Run.ret (some (.int ((-32 : Int32)))) d_M_copy_174 ⟨_, rfl⟩ ?_
                                exact RQZ.bad 0 (by (try simp only [epN, hztpN, eqN, hztqN, Int.toNat_natCast] at c1 c3 c4 c6 c8 c29 c50 c51 c53 c54 c56 c58 c60 c62 c65); (unfold o_copy); (try dsimp only); (try simp only [epN, hztpN, eqN, hztqN, Int.toNat_natCast]); (repeat (first | rw [if_pos (by omega)] | rw [if_neg (by omega)])); (try rfl); (all_goals first | rfl | (congr 2 <;> omega) | ((repeat' split) <;> first | rfl | (exfalso; omega) | (congr 2 <;> omega) | skip))) (by decide) FrS.rf hI66
                              · refine r_iload (pc2 := 156) d_M_copy_154 rfl rfl ?_
                                refine r_aload_n (x := some 761) (pc2 := 157) d_M_copy_156 rfl rfl ?_
                                refine q_getR (x := some 778) (pc2 := 160) d_M_copy_157 rfl k_M_58 rfl (sh_761 hS) (rf_761_28 hR) ?_
                                refine r_iload_n (pc2 := 161) d_M_copy_160 rfl rfl ?_
                                refine q_iaload (q := qN) (x := nI szqN) (pc2 := 162) d_M_copy_161 rfl (sh_778 hS) (nI_toInt (by omega)) (by omega) hszqN ?_
                                refine r_iload (pc2 := 164) d_M_copy_162 rfl rfl ?_
                                refine q_isubV (pc2 := 165) d_M_copy_164 rfl (A := ((szqN : Nat) : Int)) (B := j.toInt) (nI_toInt (by omega)) (rfl) (by constructor <;> omega) (fun y67 ey67 hy67 => ?_)
                                refine q_icmp_le (tgt := 175) (A := n.toInt) (B := ((szqN : Nat) : Int) - j.toInt) (pc2 := 168) d_M_copy_165 rfl rfl (rfl) (hy67) (fun c68 => ?_) (fun c68 => ?_)
                                · obtain ⟨iN, hiN, rfl, eiN⟩ : ∃ a : Nat, a ≤ 40 ∧ i = nI a ∧ i.toInt = (a : Int) := ⟨i.toInt.toNat, by omega, eq_nI (by omega), by omega⟩
                                  obtain ⟨jN, hjN, rfl, ejN⟩ : ∃ a : Nat, a ≤ 40 ∧ j = nI a ∧ j.toInt = (a : Int) := ⟨j.toInt.toNat, by omega, eq_nI (by omega), by omega⟩
                                  obtain ⟨nN, hnN, rfl, enN⟩ : ∃ a : Nat, a ≤ 40 ∧ n = nI a ∧ n.toInt = (a : Int) := ⟨n.toInt.toNat, by omega, eq_nI (by omega), by omega⟩
                                  refine r_iconst (v := nI 0) (pc2 := 176) d_M_copy_175 rfl (by decide) ?_
                                  refine r_istore (pc2 := 178) d_M_copy_176 rfl (Nat.le_of_ble_eq_true rfl) ?_
                                  refine Run.sub (l2 := [(0, .ref 761), (1, .int (nI pN)), (2, .int (nI qN)), (3, .int (nI iN)), (4, .int (nI jN)), (5, .int (nI nN)), (6, .int (nI 0))]) ⟨rfl, rfl, rfl, rfl, rfl, rfl, rfl, trivial⟩ ?_
                                  have hend : Run mi_M_copy d 0 0 240 [(0, .ref 761), (1, .int (nI pN)), (2, .int (nI qN)), (3, .int (nI iN)), (4, .int (nI jN)), (5, .int (nI nN))] [] (I, R, cpE L (40 * qN + jN) (40 * pN + iN) (fun m => decide (40 * qN + jN ≤ m ∧ m < 40 * qN + jN + nN)), sh, N) (RQZ I R L sh N (o_copy (I 777) (I 778) (nI pN) (nI qN) (nI iN) (nI jN) (nI nN)) I (L_copy L (nI pN) (nI qN) (nI iN) (nI jN) (nI nN))) := by
                                    refine r_iload (pc2 := 242) d_M_copy_240 rfl rfl ?_
                                    refine Run.ret (some (.int (nI nN))) d_M_copy_242 ⟨_, rfl⟩ ?_
                                    rw [show (cpE L (40 * qN + jN) (40 * pN + iN) (fun m => decide (40 * qN + jN ≤ m ∧ m < 40 * qN + jN + nN))) = L_copy L (nI pN) (nI qN) (nI iN) (nI jN) (nI nN) from by (unfold L_copy; simp only [epN, eqN, eiN, ejN, enN, Int.toNat_natCast])]
                                    exact RQZ.val (by (try simp only [epN, hztpN, eqN, hztqN, eiN, ejN, enN, Int.toNat_natCast] at c1 c3 c4 c6 c8 c29 c50 c51 c53 c54 c56 c58 c60 c62 c65 c68); (unfold o_copy); (try dsimp only); (try simp only [epN, hztpN, eqN, hztqN, eiN, ejN, enN, Int.toNat_natCast]); (repeat (first | rw [if_pos (by omega)] | rw [if_neg (by omega)])); (try rfl); (all_goals first | rfl | (congr 2 <;> omega) | ((repeat' split) <;> first | rfl | (exfalso; omega) | (congr 2 <;> omega) | skip))) FrS.rf
                                  rcases Nat.lt_or_ge iN jN with hdir | hdir
                                  · exact l_M_copy_b hS hR (p := pN) (q := qN) (i := iN) (j := jN) (n := nN) (by omega) (by omega) (by omega) (by omega) hdir (hk := hend) _ 0 L rfl (cpE_0 (fun m => decide_eq_false (by omega))).symm (by omega)
                                  · exact l_M_copy_f hS hR (p := pN) (q := qN) (i := iN) (j := jN) (n := nN) (by omega) (by omega) (by omega) (by omega) hdir (hk := hend) _ 0 L rfl (cpE_0 (fun m => decide_eq_false (by omega))).symm (by omega)
                                · refine r_aload_n (x := some 761) (pc2 := 169) d_M_copy_168 rfl rfl ?_
                                  refine r_bipush (v := (-32 : Int32)) (pc2 := 171) d_M_copy_169 rfl (by decide) ?_
                                  refine q_callv (M2 := mi_M_refused) (pc2 := 174) d_M_copy_171 rfl k_M_106 cm_M_refused cv_M_refused (sh_761 hS) (by decide) rfl rfl rfl (Nat.le_of_ble_eq_true rfl) (c_M_refused_0 (I := I) hS hR) (d2 := d - 1) (by omega) (Nat.le_of_eq (Nat.zero_add _)) (Nat.le_of_eq (Nat.zero_add _)) ?_
                                  obtain ⟨I69, hI69⟩ : ∃ x, x = u2 I 765 0 (I 765 0 + nI 1) := ⟨_, rfl⟩
                                  rw [← hI69]
                                  refine Run.ret (some (.int ((-32 : Int32)))) d_M_copy_174 ⟨_, rfl⟩ ?_
                                  exact RQZ.bad 0 (by (try simp only [epN, hztpN, eqN, hztqN, Int.toNat_natCast] at c1 c3 c4 c6 c8 c29 c50 c51 c53 c54 c56 c58 c60 c62 c65 c68); (unfold o_copy); (try dsimp only); (try simp only [epN, hztpN, eqN, hztqN, Int.toNat_natCast]); (repeat (first | rw [if_pos (by omega)] | rw [if_neg (by omega)])); (try rfl); (all_goals first | rfl | (congr 2 <;> omega) | ((repeat' split) <;> first | rfl | (exfalso; omega) | (congr 2 <;> omega) | skip))) (by decide) FrS.rf hI69
                  · refine r_aload_n (x := some 761) (pc2 := 100) d_M_copy_99 rfl rfl ?_
                    refine r_bipush (v := (-34 : Int32)) (pc2 := 102) d_M_copy_100 rfl (by decide) ?_
                    refine q_callv (M2 := mi_M_refused) (pc2 := 105) d_M_copy_102 rfl k_M_106 cm_M_refused cv_M_refused (sh_761 hS) (by decide) rfl rfl rfl (Nat.le_of_ble_eq_true rfl) (c_M_refused_2 (I := I) hS hR) (d2 := d - 1) (by omega) (Nat.le_of_eq (Nat.zero_add _)) (Nat.le_of_eq (Nat.zero_add _)) ?_
                    obtain ⟨I70, hI70⟩ : ∃ x, x = u2 I 765 2 (I 765 2 + nI 1) := ⟨_, rfl⟩
                    rw [← hI70]
                    refine Run.ret (some (.int ((-34 : Int32)))) d_M_copy_105 ⟨_, rfl⟩ ?_
                    exact RQZ.bad 2 (by (try simp only [epN, hztpN, eqN, hztqN, Int.toNat_natCast] at c1 c3 c4 c6 c8 c29 c50 c51 c53); (unfold o_copy); (try dsimp only); (try simp only [epN, hztpN, eqN, hztqN, Int.toNat_natCast]); (repeat (first | rw [if_pos (by omega)] | rw [if_neg (by omega)])); (try rfl); (all_goals first | rfl | (congr 2 <;> omega) | ((repeat' split) <;> first | rfl | (exfalso; omega) | (congr 2 <;> omega) | skip))) (by decide) FrS.rf hI70
              · refine r_aload_n (x := some 761) (pc2 := 75) d_M_copy_74 rfl rfl ?_
                refine r_bipush (v := (-33 : Int32)) (pc2 := 77) d_M_copy_75 rfl (by decide) ?_
                refine q_callv (M2 := mi_M_refused) (pc2 := 80) d_M_copy_77 rfl k_M_106 cm_M_refused cv_M_refused (sh_761 hS) (by decide) rfl rfl rfl (Nat.le_of_ble_eq_true rfl) (c_M_refused_1 (I := I) hS hR) (d2 := d - 1) (by omega) (Nat.le_of_eq (Nat.zero_add _)) (Nat.le_of_eq (Nat.zero_add _)) ?_
                obtain ⟨I71, hI71⟩ : ∃ x, x = u2 I 765 1 (I 765 1 + nI 1) := ⟨_, rfl⟩
                rw [← hI71]
                refine Run.ret (some (.int ((-33 : Int32)))) d_M_copy_80 ⟨_, rfl⟩ ?_
                exact RQZ.bad 1 (by (try simp only [epN, hztpN, eqN, hztqN, Int.toNat_natCast] at c1 c3 c4 c6 c8 c29 c50); (unfold o_copy); (try dsimp only); (try simp only [epN, hztpN, eqN, hztqN, Int.toNat_natCast]); (repeat (first | rw [if_pos (by omega)] | rw [if_neg (by omega)])); (try rfl); (all_goals first | rfl | (congr 2 <;> omega) | ((repeat' split) <;> first | rfl | (exfalso; omega) | (congr 2 <;> omega) | skip))) (by decide) FrS.rf hI71
    · refine r_aload_n (x := some 761) (pc2 := 15) d_M_copy_14 rfl rfl ?_
      refine r_bipush (v := (-32 : Int32)) (pc2 := 17) d_M_copy_15 rfl (by decide) ?_
      refine q_callv (M2 := mi_M_refused) (pc2 := 20) d_M_copy_17 rfl k_M_106 cm_M_refused cv_M_refused (sh_761 hS) (by decide) rfl rfl rfl (Nat.le_of_ble_eq_true rfl) (c_M_refused_0 (I := I) hS hR) (d2 := d - 1) (by omega) (Nat.le_of_eq (Nat.zero_add _)) (Nat.le_of_eq (Nat.zero_add _)) ?_
      obtain ⟨I72, hI72⟩ : ∃ x, x = u2 I 765 0 (I 765 0 + nI 1) := ⟨_, rfl⟩
      rw [← hI72]
      refine Run.ret (some (.int ((-32 : Int32)))) d_M_copy_20 ⟨_, rfl⟩ ?_
      exact RQZ.bad 0 (by (try simp only [epN, hztpN, Int.toNat_natCast] at c1 c3); (unfold o_copy); (try dsimp only); (try simp only [epN, hztpN, Int.toNat_natCast]); (repeat (first | rw [if_pos (by omega)] | rw [if_neg (by omega)])); (try rfl); (all_goals first | rfl | (congr 2 <;> omega) | ((repeat' split) <;> first | rfl | (exfalso; omega) | (congr 2 <;> omega) | skip))) (by decide) FrS.rf hI72
